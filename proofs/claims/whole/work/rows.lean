section
/-- a private method of a class that the tables say can be made, by its rows of tables_1 -/
def lw_okq (q : MethodName × Nat) : Prop := (q.1.cls ≠ "java/lang/invoke/MethodHandle" ∧ q.1.cls ≠ "java/lang/invoke/VarHandle") ∧ Cond.instantiable q.1.cls q.2 ∈ tables_1 ∧ Cond.privateMethod q.1 ∈ tables_1 ∧ Cond.instanceMethod q.1 ∈ tables_1
theorem lw_p0 : lw_okq (⟨"java/lang/Throwable", "fillInStackTrace", "(I)Ljava/lang/Throwable;"⟩, 6) := ⟨⟨by decide +kernel, by decide +kernel⟩, List.mem_of_getElem? (i := 209) (by decide +kernel), List.mem_of_getElem? (i := 207) (by decide +kernel), List.mem_of_getElem? (i := 208) (by decide +kernel)⟩
theorem lw_p1 : lw_okq (⟨"PackedDecimals", "findWithByte", "(II)LPackedDecimals$Numeral;"⟩, 8) := ⟨⟨by decide +kernel, by decide +kernel⟩, List.mem_of_getElem? (i := 20) (by decide +kernel), List.mem_of_getElem? (i := 288) (by decide +kernel), List.mem_of_getElem? (i := 289) (by decide +kernel)⟩
theorem lw_p2 : lw_okq (⟨"PackedDecimals", "find", "(I)LPackedDecimals$Numeral;"⟩, 8) := ⟨⟨by decide +kernel, by decide +kernel⟩, List.mem_of_getElem? (i := 20) (by decide +kernel), List.mem_of_getElem? (i := 292) (by decide +kernel), List.mem_of_getElem? (i := 293) (by decide +kernel)⟩
theorem lw_p3 : lw_okq (⟨"PackedDecimals$Natural", "settle", "(I)V"⟩, 2) := ⟨⟨by decide +kernel, by decide +kernel⟩, List.mem_of_getElem? (i := 36) (by decide +kernel), List.mem_of_getElem? (i := 361) (by decide +kernel), List.mem_of_getElem? (i := 362) (by decide +kernel)⟩
theorem lw_p4 : lw_okq (⟨"PackedDecimals$Reader", "readSize", "(LPackedDecimals$Numeral;LPackedDecimals$Fraction;)Z"⟩, 1) := ⟨⟨by decide +kernel, by decide +kernel⟩, List.mem_of_getElem? (i := 30) (by decide +kernel), List.mem_of_getElem? (i := 365) (by decide +kernel), List.mem_of_getElem? (i := 366) (by decide +kernel)⟩
theorem lw_p5 : lw_okq (⟨"PackedDecimals$Reader", "readPacked", "(LPackedDecimals$Numeral;LPackedDecimals$Fraction;)Z"⟩, 1) := ⟨⟨by decide +kernel, by decide +kernel⟩, List.mem_of_getElem? (i := 30) (by decide +kernel), List.mem_of_getElem? (i := 369) (by decide +kernel), List.mem_of_getElem? (i := 370) (by decide +kernel)⟩
theorem lw_p6 : lw_okq (⟨"PackedDecimals$Reader", "readBinary", "(LPackedDecimals$Numeral;LPackedDecimals$Fraction;)Z"⟩, 1) := ⟨⟨by decide +kernel, by decide +kernel⟩, List.mem_of_getElem? (i := 30) (by decide +kernel), List.mem_of_getElem? (i := 399) (by decide +kernel), List.mem_of_getElem? (i := 400) (by decide +kernel)⟩
theorem lw_p7 : lw_okq (⟨"PackedDecimals$Reader", "belowTenTo", "(ILPackedDecimals$Natural;)Z"⟩, 1) := ⟨⟨by decide +kernel, by decide +kernel⟩, List.mem_of_getElem? (i := 30) (by decide +kernel), List.mem_of_getElem? (i := 404) (by decide +kernel), List.mem_of_getElem? (i := 405) (by decide +kernel)⟩
theorem lw_p8 : lw_okq (⟨"PackedDecimals$Reader", "readFloating", "(LPackedDecimals$Numeral;LPackedDecimals$Fraction;)Z"⟩, 1) := ⟨⟨by decide +kernel, by decide +kernel⟩, List.mem_of_getElem? (i := 30) (by decide +kernel), List.mem_of_getElem? (i := 422) (by decide +kernel), List.mem_of_getElem? (i := 423) (by decide +kernel)⟩
theorem lw_p9 : lw_okq (⟨"PackedDecimals$Reader", "readNational", "(LPackedDecimals$Numeral;LPackedDecimals$Fraction;)Z"⟩, 1) := ⟨⟨by decide +kernel, by decide +kernel⟩, List.mem_of_getElem? (i := 30) (by decide +kernel), List.mem_of_getElem? (i := 447) (by decide +kernel), List.mem_of_getElem? (i := 448) (by decide +kernel)⟩
theorem lw_p10 : lw_okq (⟨"PackedDecimals$Reader", "readZoned", "(LPackedDecimals$Numeral;LPackedDecimals$Fraction;)Z"⟩, 1) := ⟨⟨by decide +kernel, by decide +kernel⟩, List.mem_of_getElem? (i := 30) (by decide +kernel), List.mem_of_getElem? (i := 454) (by decide +kernel), List.mem_of_getElem? (i := 455) (by decide +kernel)⟩
theorem lw_p11 : lw_okq (⟨"PackedDecimals$Natural", "topLength", "()I"⟩, 2) := ⟨⟨by decide +kernel, by decide +kernel⟩, List.mem_of_getElem? (i := 36) (by decide +kernel), List.mem_of_getElem? (i := 495) (by decide +kernel), List.mem_of_getElem? (i := 496) (by decide +kernel)⟩
theorem lw_p12 : lw_okq (⟨"PackedDecimals$Natural", "takeTimes", "(LPackedDecimals$Natural;I)I"⟩, 2) := ⟨⟨by decide +kernel, by decide +kernel⟩, List.mem_of_getElem? (i := 36) (by decide +kernel), List.mem_of_getElem? (i := 501) (by decide +kernel), List.mem_of_getElem? (i := 502) (by decide +kernel)⟩
theorem lw_p13 : lw_okq (⟨"PackedDecimals$Natural", "guessTimes", "(LPackedDecimals$Natural;I)I"⟩, 2) := ⟨⟨by decide +kernel, by decide +kernel⟩, List.mem_of_getElem? (i := 36) (by decide +kernel), List.mem_of_getElem? (i := 505) (by decide +kernel), List.mem_of_getElem? (i := 506) (by decide +kernel)⟩
theorem lw_p14 : lw_okq (⟨"PackedDecimals$Natural", "shiftRight", "(I)V"⟩, 2) := ⟨⟨by decide +kernel, by decide +kernel⟩, List.mem_of_getElem? (i := 36) (by decide +kernel), List.mem_of_getElem? (i := 510) (by decide +kernel), List.mem_of_getElem? (i := 511) (by decide +kernel)⟩
theorem lw_p15 : lw_okq (⟨"PackedDecimals", "calculate", "(II)Z"⟩, 8) := ⟨⟨by decide +kernel, by decide +kernel⟩, List.mem_of_getElem? (i := 20) (by decide +kernel), List.mem_of_getElem? (i := 534) (by decide +kernel), List.mem_of_getElem? (i := 535) (by decide +kernel)⟩
def lw_privs_1 : List (MethodName × Nat) := [(⟨"java/lang/Throwable", "fillInStackTrace", "(I)Ljava/lang/Throwable;"⟩, 6), (⟨"PackedDecimals", "findWithByte", "(II)LPackedDecimals$Numeral;"⟩, 8), (⟨"PackedDecimals", "find", "(I)LPackedDecimals$Numeral;"⟩, 8), (⟨"PackedDecimals$Natural", "settle", "(I)V"⟩, 2), (⟨"PackedDecimals$Reader", "readSize", "(LPackedDecimals$Numeral;LPackedDecimals$Fraction;)Z"⟩, 1), (⟨"PackedDecimals$Reader", "readPacked", "(LPackedDecimals$Numeral;LPackedDecimals$Fraction;)Z"⟩, 1), (⟨"PackedDecimals$Reader", "readBinary", "(LPackedDecimals$Numeral;LPackedDecimals$Fraction;)Z"⟩, 1), (⟨"PackedDecimals$Reader", "belowTenTo", "(ILPackedDecimals$Natural;)Z"⟩, 1), (⟨"PackedDecimals$Reader", "readFloating", "(LPackedDecimals$Numeral;LPackedDecimals$Fraction;)Z"⟩, 1), (⟨"PackedDecimals$Reader", "readNational", "(LPackedDecimals$Numeral;LPackedDecimals$Fraction;)Z"⟩, 1), (⟨"PackedDecimals$Reader", "readZoned", "(LPackedDecimals$Numeral;LPackedDecimals$Fraction;)Z"⟩, 1), (⟨"PackedDecimals$Natural", "topLength", "()I"⟩, 2), (⟨"PackedDecimals$Natural", "takeTimes", "(LPackedDecimals$Natural;I)I"⟩, 2), (⟨"PackedDecimals$Natural", "guessTimes", "(LPackedDecimals$Natural;I)I"⟩, 2), (⟨"PackedDecimals$Natural", "shiftRight", "(I)V"⟩, 2), (⟨"PackedDecimals", "calculate", "(II)Z"⟩, 8)]
theorem lw_r1 : ∀ q ∈ lw_privs_1, lw_okq q := List.forall_mem_cons.mpr ⟨lw_p0, List.forall_mem_cons.mpr ⟨lw_p1, List.forall_mem_cons.mpr ⟨lw_p2, List.forall_mem_cons.mpr ⟨lw_p3, List.forall_mem_cons.mpr ⟨lw_p4, List.forall_mem_cons.mpr ⟨lw_p5, List.forall_mem_cons.mpr ⟨lw_p6, List.forall_mem_cons.mpr ⟨lw_p7, List.forall_mem_cons.mpr ⟨lw_p8, List.forall_mem_cons.mpr ⟨lw_p9, List.forall_mem_cons.mpr ⟨lw_p10, List.forall_mem_cons.mpr ⟨lw_p11, List.forall_mem_cons.mpr ⟨lw_p12, List.forall_mem_cons.mpr ⟨lw_p13, List.forall_mem_cons.mpr ⟨lw_p14, List.forall_mem_cons.mpr ⟨lw_p15, fun _ h => absurd h List.not_mem_nil⟩⟩⟩⟩⟩⟩⟩⟩⟩⟩⟩⟩⟩⟩⟩⟩
theorem lw_p16 : lw_okq (⟨"PackedDecimals$Arithmetic", "cross", "(LPackedDecimals$Fraction;LPackedDecimals$Fraction;)V"⟩, 4) := ⟨⟨by decide +kernel, by decide +kernel⟩, List.mem_of_getElem? (i := 54) (by decide +kernel), List.mem_of_getElem? (i := 542) (by decide +kernel), List.mem_of_getElem? (i := 543) (by decide +kernel)⟩
theorem lw_p17 : lw_okq (⟨"PackedDecimals$Storage", "storeFloating", "(LPackedDecimals$Numeral;LPackedDecimals$Fraction;)Z"⟩, 6) := ⟨⟨by decide +kernel, by decide +kernel⟩, List.mem_of_getElem? (i := 75) (by decide +kernel), List.mem_of_getElem? (i := 604) (by decide +kernel), List.mem_of_getElem? (i := 605) (by decide +kernel)⟩
theorem lw_p18 : lw_okq (⟨"PackedDecimals$Storage", "nearest", "(LPackedDecimals$Numeral;LPackedDecimals$Fraction;)J"⟩, 6) := ⟨⟨by decide +kernel, by decide +kernel⟩, List.mem_of_getElem? (i := 75) (by decide +kernel), List.mem_of_getElem? (i := 608) (by decide +kernel), List.mem_of_getElem? (i := 609) (by decide +kernel)⟩
theorem lw_p19 : lw_okq (⟨"PackedDecimals$Storage", "scaleTo", "(ILPackedDecimals$Fraction;)I"⟩, 6) := ⟨⟨by decide +kernel, by decide +kernel⟩, List.mem_of_getElem? (i := 75) (by decide +kernel), List.mem_of_getElem? (i := 614) (by decide +kernel), List.mem_of_getElem? (i := 615) (by decide +kernel)⟩
theorem lw_p20 : lw_okq (⟨"PackedDecimals$Storage", "roundOff", "(I)J"⟩, 6) := ⟨⟨by decide +kernel, by decide +kernel⟩, List.mem_of_getElem? (i := 75) (by decide +kernel), List.mem_of_getElem? (i := 627) (by decide +kernel), List.mem_of_getElem? (i := 628) (by decide +kernel)⟩
theorem lw_p21 : lw_okq (⟨"PackedDecimals$Storage", "split", "(LPackedDecimals$Fraction;I)V"⟩, 6) := ⟨⟨by decide +kernel, by decide +kernel⟩, List.mem_of_getElem? (i := 75) (by decide +kernel), List.mem_of_getElem? (i := 642) (by decide +kernel), List.mem_of_getElem? (i := 643) (by decide +kernel)⟩
theorem lw_p22 : lw_okq (⟨"PackedDecimals$Storage", "roundsAway", "(ILPackedDecimals$Fraction;)Z"⟩, 6) := ⟨⟨by decide +kernel, by decide +kernel⟩, List.mem_of_getElem? (i := 75) (by decide +kernel), List.mem_of_getElem? (i := 647) (by decide +kernel), List.mem_of_getElem? (i := 648) (by decide +kernel)⟩
theorem lw_p23 : lw_okq (⟨"PackedDecimals$Storage", "fits", "(LPackedDecimals$Numeral;Z)Z"⟩, 6) := ⟨⟨by decide +kernel, by decide +kernel⟩, List.mem_of_getElem? (i := 75) (by decide +kernel), List.mem_of_getElem? (i := 658) (by decide +kernel), List.mem_of_getElem? (i := 659) (by decide +kernel)⟩
theorem lw_p24 : lw_okq (⟨"PackedDecimals$Writer", "writePacked", "(LPackedDecimals$Numeral;LPackedDecimals$Natural;Z)V"⟩, 0) := ⟨⟨by decide +kernel, by decide +kernel⟩, List.mem_of_getElem? (i := 81) (by decide +kernel), List.mem_of_getElem? (i := 667) (by decide +kernel), List.mem_of_getElem? (i := 668) (by decide +kernel)⟩
theorem lw_p25 : lw_okq (⟨"PackedDecimals$Writer", "writeBinary", "(LPackedDecimals$Numeral;LPackedDecimals$Natural;Z)V"⟩, 0) := ⟨⟨by decide +kernel, by decide +kernel⟩, List.mem_of_getElem? (i := 81) (by decide +kernel), List.mem_of_getElem? (i := 686) (by decide +kernel), List.mem_of_getElem? (i := 687) (by decide +kernel)⟩
theorem lw_p26 : lw_okq (⟨"PackedDecimals$Writer", "writeNational", "(LPackedDecimals$Numeral;LPackedDecimals$Natural;Z)V"⟩, 0) := ⟨⟨by decide +kernel, by decide +kernel⟩, List.mem_of_getElem? (i := 81) (by decide +kernel), List.mem_of_getElem? (i := 694) (by decide +kernel), List.mem_of_getElem? (i := 695) (by decide +kernel)⟩
theorem lw_p27 : lw_okq (⟨"PackedDecimals$Writer", "writeZoned", "(LPackedDecimals$Numeral;LPackedDecimals$Natural;Z)V"⟩, 0) := ⟨⟨by decide +kernel, by decide +kernel⟩, List.mem_of_getElem? (i := 81) (by decide +kernel), List.mem_of_getElem? (i := 698) (by decide +kernel), List.mem_of_getElem? (i := 699) (by decide +kernel)⟩
theorem lw_p28 : lw_okq (⟨"PackedDecimals$Storage", "moveFloating", "(LPackedDecimals$Numeral;LPackedDecimals$Fraction;)Z"⟩, 6) := ⟨⟨by decide +kernel, by decide +kernel⟩, List.mem_of_getElem? (i := 75) (by decide +kernel), List.mem_of_getElem? (i := 734) (by decide +kernel), List.mem_of_getElem? (i := 735) (by decide +kernel)⟩
theorem lw_p29 : lw_okq (⟨"PackedDecimals$Storage", "keepDigits", "(I)V"⟩, 6) := ⟨⟨by decide +kernel, by decide +kernel⟩, List.mem_of_getElem? (i := 75) (by decide +kernel), List.mem_of_getElem? (i := 738) (by decide +kernel), List.mem_of_getElem? (i := 739) (by decide +kernel)⟩
theorem lw_p30 : lw_okq (⟨"PackedDecimalsModel", "fails", "(ZZ)Z"⟩, 14) := ⟨⟨by decide +kernel, by decide +kernel⟩, List.mem_of_getElem? (i := 765) (by decide +kernel), List.mem_of_getElem? (i := 822) (by decide +kernel), List.mem_of_getElem? (i := 823) (by decide +kernel)⟩
theorem lw_p31 : lw_okq (⟨"PackedDecimalsModel", "isByte", "(II)Z"⟩, 14) := ⟨⟨by decide +kernel, by decide +kernel⟩, List.mem_of_getElem? (i := 765) (by decide +kernel), List.mem_of_getElem? (i := 833) (by decide +kernel), List.mem_of_getElem? (i := 834) (by decide +kernel)⟩
def lw_privs_2 : List (MethodName × Nat) := [(⟨"PackedDecimals$Arithmetic", "cross", "(LPackedDecimals$Fraction;LPackedDecimals$Fraction;)V"⟩, 4), (⟨"PackedDecimals$Storage", "storeFloating", "(LPackedDecimals$Numeral;LPackedDecimals$Fraction;)Z"⟩, 6), (⟨"PackedDecimals$Storage", "nearest", "(LPackedDecimals$Numeral;LPackedDecimals$Fraction;)J"⟩, 6), (⟨"PackedDecimals$Storage", "scaleTo", "(ILPackedDecimals$Fraction;)I"⟩, 6), (⟨"PackedDecimals$Storage", "roundOff", "(I)J"⟩, 6), (⟨"PackedDecimals$Storage", "split", "(LPackedDecimals$Fraction;I)V"⟩, 6), (⟨"PackedDecimals$Storage", "roundsAway", "(ILPackedDecimals$Fraction;)Z"⟩, 6), (⟨"PackedDecimals$Storage", "fits", "(LPackedDecimals$Numeral;Z)Z"⟩, 6), (⟨"PackedDecimals$Writer", "writePacked", "(LPackedDecimals$Numeral;LPackedDecimals$Natural;Z)V"⟩, 0), (⟨"PackedDecimals$Writer", "writeBinary", "(LPackedDecimals$Numeral;LPackedDecimals$Natural;Z)V"⟩, 0), (⟨"PackedDecimals$Writer", "writeNational", "(LPackedDecimals$Numeral;LPackedDecimals$Natural;Z)V"⟩, 0), (⟨"PackedDecimals$Writer", "writeZoned", "(LPackedDecimals$Numeral;LPackedDecimals$Natural;Z)V"⟩, 0), (⟨"PackedDecimals$Storage", "moveFloating", "(LPackedDecimals$Numeral;LPackedDecimals$Fraction;)Z"⟩, 6), (⟨"PackedDecimals$Storage", "keepDigits", "(I)V"⟩, 6), (⟨"PackedDecimalsModel", "fails", "(ZZ)Z"⟩, 14), (⟨"PackedDecimalsModel", "isByte", "(II)Z"⟩, 14)]
theorem lw_r2 : ∀ q ∈ lw_privs_2, lw_okq q := List.forall_mem_cons.mpr ⟨lw_p16, List.forall_mem_cons.mpr ⟨lw_p17, List.forall_mem_cons.mpr ⟨lw_p18, List.forall_mem_cons.mpr ⟨lw_p19, List.forall_mem_cons.mpr ⟨lw_p20, List.forall_mem_cons.mpr ⟨lw_p21, List.forall_mem_cons.mpr ⟨lw_p22, List.forall_mem_cons.mpr ⟨lw_p23, List.forall_mem_cons.mpr ⟨lw_p24, List.forall_mem_cons.mpr ⟨lw_p25, List.forall_mem_cons.mpr ⟨lw_p26, List.forall_mem_cons.mpr ⟨lw_p27, List.forall_mem_cons.mpr ⟨lw_p28, List.forall_mem_cons.mpr ⟨lw_p29, List.forall_mem_cons.mpr ⟨lw_p30, List.forall_mem_cons.mpr ⟨lw_p31, fun _ h => absurd h List.not_mem_nil⟩⟩⟩⟩⟩⟩⟩⟩⟩⟩⟩⟩⟩⟩⟩⟩
theorem lw_p32 : lw_okq (⟨"PackedDecimalsModel", "isNumber", "(I)Z"⟩, 14) := ⟨⟨by decide +kernel, by decide +kernel⟩, List.mem_of_getElem? (i := 765) (by decide +kernel), List.mem_of_getElem? (i := 837) (by decide +kernel), List.mem_of_getElem? (i := 838) (by decide +kernel)⟩
theorem lw_p33 : lw_okq (⟨"PackedDecimalsModel", "load", "(I)Z"⟩, 14) := ⟨⟨by decide +kernel, by decide +kernel⟩, List.mem_of_getElem? (i := 765) (by decide +kernel), List.mem_of_getElem? (i := 853) (by decide +kernel), List.mem_of_getElem? (i := 854) (by decide +kernel)⟩
theorem lw_p34 : lw_okq (⟨"PackedDecimalsModel", "small", "(II)V"⟩, 14) := ⟨⟨by decide +kernel, by decide +kernel⟩, List.mem_of_getElem? (i := 765) (by decide +kernel), List.mem_of_getElem? (i := 857) (by decide +kernel), List.mem_of_getElem? (i := 858) (by decide +kernel)⟩
theorem lw_p35 : lw_okq (⟨"PackedDecimalsModel", "clear", "(I)V"⟩, 14) := ⟨⟨by decide +kernel, by decide +kernel⟩, List.mem_of_getElem? (i := 765) (by decide +kernel), List.mem_of_getElem? (i := 861) (by decide +kernel), List.mem_of_getElem? (i := 862) (by decide +kernel)⟩
theorem lw_p36 : lw_okq (⟨"PackedDecimalsModel", "loadZoned", "(II)Z"⟩, 14) := ⟨⟨by decide +kernel, by decide +kernel⟩, List.mem_of_getElem? (i := 765) (by decide +kernel), List.mem_of_getElem? (i := 865) (by decide +kernel), List.mem_of_getElem? (i := 866) (by decide +kernel)⟩
theorem lw_p37 : lw_okq (⟨"PackedDecimalsModel", "read", "(II)I"⟩, 14) := ⟨⟨by decide +kernel, by decide +kernel⟩, List.mem_of_getElem? (i := 765) (by decide +kernel), List.mem_of_getElem? (i := 869) (by decide +kernel), List.mem_of_getElem? (i := 870) (by decide +kernel)⟩
theorem lw_p38 : lw_okq (⟨"PackedDecimalsModel", "gains", "(I)Z"⟩, 14) := ⟨⟨by decide +kernel, by decide +kernel⟩, List.mem_of_getElem? (i := 765) (by decide +kernel), List.mem_of_getElem? (i := 876) (by decide +kernel), List.mem_of_getElem? (i := 877) (by decide +kernel)⟩
theorem lw_p39 : lw_okq (⟨"PackedDecimalsModel", "times", "(II)V"⟩, 14) := ⟨⟨by decide +kernel, by decide +kernel⟩, List.mem_of_getElem? (i := 765) (by decide +kernel), List.mem_of_getElem? (i := 880) (by decide +kernel), List.mem_of_getElem? (i := 881) (by decide +kernel)⟩
theorem lw_p40 : lw_okq (⟨"PackedDecimalsModel", "plus", "(II)V"⟩, 14) := ⟨⟨by decide +kernel, by decide +kernel⟩, List.mem_of_getElem? (i := 765) (by decide +kernel), List.mem_of_getElem? (i := 885) (by decide +kernel), List.mem_of_getElem? (i := 886) (by decide +kernel)⟩
theorem lw_p41 : lw_okq (⟨"PackedDecimalsModel", "loadPacked", "(I)Z"⟩, 14) := ⟨⟨by decide +kernel, by decide +kernel⟩, List.mem_of_getElem? (i := 765) (by decide +kernel), List.mem_of_getElem? (i := 890) (by decide +kernel), List.mem_of_getElem? (i := 891) (by decide +kernel)⟩
theorem lw_p42 : lw_okq (⟨"PackedDecimalsModel", "loadBinary", "(I)Z"⟩, 14) := ⟨⟨by decide +kernel, by decide +kernel⟩, List.mem_of_getElem? (i := 765) (by decide +kernel), List.mem_of_getElem? (i := 894) (by decide +kernel), List.mem_of_getElem? (i := 895) (by decide +kernel)⟩
theorem lw_p43 : lw_okq (⟨"PackedDecimalsModel", "tens", "(II)V"⟩, 14) := ⟨⟨by decide +kernel, by decide +kernel⟩, List.mem_of_getElem? (i := 765) (by decide +kernel), List.mem_of_getElem? (i := 898) (by decide +kernel), List.mem_of_getElem? (i := 899) (by decide +kernel)⟩
theorem lw_p44 : lw_okq (⟨"PackedDecimalsModel", "order", "(II)I"⟩, 14) := ⟨⟨by decide +kernel, by decide +kernel⟩, List.mem_of_getElem? (i := 765) (by decide +kernel), List.mem_of_getElem? (i := 902) (by decide +kernel), List.mem_of_getElem? (i := 903) (by decide +kernel)⟩
theorem lw_p45 : lw_okq (⟨"PackedDecimalsModel", "loadFloat", "(I)Z"⟩, 14) := ⟨⟨by decide +kernel, by decide +kernel⟩, List.mem_of_getElem? (i := 765) (by decide +kernel), List.mem_of_getElem? (i := 906) (by decide +kernel), List.mem_of_getElem? (i := 907) (by decide +kernel)⟩
theorem lw_p46 : lw_okq (⟨"PackedDecimalsModel", "isZero", "(I)Z"⟩, 14) := ⟨⟨by decide +kernel, by decide +kernel⟩, List.mem_of_getElem? (i := 765) (by decide +kernel), List.mem_of_getElem? (i := 910) (by decide +kernel), List.mem_of_getElem? (i := 911) (by decide +kernel)⟩
theorem lw_p47 : lw_okq (⟨"PackedDecimalsModel", "twice", "(II)V"⟩, 14) := ⟨⟨by decide +kernel, by decide +kernel⟩, List.mem_of_getElem? (i := 765) (by decide +kernel), List.mem_of_getElem? (i := 914) (by decide +kernel), List.mem_of_getElem? (i := 915) (by decide +kernel)⟩
def lw_privs_3 : List (MethodName × Nat) := [(⟨"PackedDecimalsModel", "isNumber", "(I)Z"⟩, 14), (⟨"PackedDecimalsModel", "load", "(I)Z"⟩, 14), (⟨"PackedDecimalsModel", "small", "(II)V"⟩, 14), (⟨"PackedDecimalsModel", "clear", "(I)V"⟩, 14), (⟨"PackedDecimalsModel", "loadZoned", "(II)Z"⟩, 14), (⟨"PackedDecimalsModel", "read", "(II)I"⟩, 14), (⟨"PackedDecimalsModel", "gains", "(I)Z"⟩, 14), (⟨"PackedDecimalsModel", "times", "(II)V"⟩, 14), (⟨"PackedDecimalsModel", "plus", "(II)V"⟩, 14), (⟨"PackedDecimalsModel", "loadPacked", "(I)Z"⟩, 14), (⟨"PackedDecimalsModel", "loadBinary", "(I)Z"⟩, 14), (⟨"PackedDecimalsModel", "tens", "(II)V"⟩, 14), (⟨"PackedDecimalsModel", "order", "(II)I"⟩, 14), (⟨"PackedDecimalsModel", "loadFloat", "(I)Z"⟩, 14), (⟨"PackedDecimalsModel", "isZero", "(I)Z"⟩, 14), (⟨"PackedDecimalsModel", "twice", "(II)V"⟩, 14)]
theorem lw_r3 : ∀ q ∈ lw_privs_3, lw_okq q := List.forall_mem_cons.mpr ⟨lw_p32, List.forall_mem_cons.mpr ⟨lw_p33, List.forall_mem_cons.mpr ⟨lw_p34, List.forall_mem_cons.mpr ⟨lw_p35, List.forall_mem_cons.mpr ⟨lw_p36, List.forall_mem_cons.mpr ⟨lw_p37, List.forall_mem_cons.mpr ⟨lw_p38, List.forall_mem_cons.mpr ⟨lw_p39, List.forall_mem_cons.mpr ⟨lw_p40, List.forall_mem_cons.mpr ⟨lw_p41, List.forall_mem_cons.mpr ⟨lw_p42, List.forall_mem_cons.mpr ⟨lw_p43, List.forall_mem_cons.mpr ⟨lw_p44, List.forall_mem_cons.mpr ⟨lw_p45, List.forall_mem_cons.mpr ⟨lw_p46, List.forall_mem_cons.mpr ⟨lw_p47, fun _ h => absurd h List.not_mem_nil⟩⟩⟩⟩⟩⟩⟩⟩⟩⟩⟩⟩⟩⟩⟩⟩
theorem lw_p48 : lw_okq (⟨"PackedDecimalsModel", "isMiddle", "(II)Z"⟩, 14) := ⟨⟨by decide +kernel, by decide +kernel⟩, List.mem_of_getElem? (i := 765) (by decide +kernel), List.mem_of_getElem? (i := 918) (by decide +kernel), List.mem_of_getElem? (i := 919) (by decide +kernel)⟩
theorem lw_p49 : lw_okq (⟨"PackedDecimalsModel", "copy", "(II)V"⟩, 14) := ⟨⟨by decide +kernel, by decide +kernel⟩, List.mem_of_getElem? (i := 765) (by decide +kernel), List.mem_of_getElem? (i := 922) (by decide +kernel), List.mem_of_getElem? (i := 923) (by decide +kernel)⟩
theorem lw_p50 : lw_okq (⟨"PackedDecimalsModel", "second", "()V"⟩, 14) := ⟨⟨by decide +kernel, by decide +kernel⟩, List.mem_of_getElem? (i := 765) (by decide +kernel), List.mem_of_getElem? (i := 930) (by decide +kernel), List.mem_of_getElem? (i := 931) (by decide +kernel)⟩
theorem lw_p51 : lw_okq (⟨"PackedDecimalsModel", "wholes", "(IIII)I"⟩, 14) := ⟨⟨by decide +kernel, by decide +kernel⟩, List.mem_of_getElem? (i := 765) (by decide +kernel), List.mem_of_getElem? (i := 934) (by decide +kernel), List.mem_of_getElem? (i := 935) (by decide +kernel)⟩
theorem lw_p52 : lw_okq (⟨"PackedDecimalsModel", "whole", "()J"⟩, 14) := ⟨⟨by decide +kernel, by decide +kernel⟩, List.mem_of_getElem? (i := 765) (by decide +kernel), List.mem_of_getElem? (i := 938) (by decide +kernel), List.mem_of_getElem? (i := 939) (by decide +kernel)⟩
theorem lw_p53 : lw_okq (⟨"PackedDecimalsModel", "divide", "(II)V"⟩, 14) := ⟨⟨by decide +kernel, by decide +kernel⟩, List.mem_of_getElem? (i := 765) (by decide +kernel), List.mem_of_getElem? (i := 942) (by decide +kernel), List.mem_of_getElem? (i := 943) (by decide +kernel)⟩
theorem lw_p54 : lw_okq (⟨"PackedDecimalsModel", "length", "(I)I"⟩, 14) := ⟨⟨by decide +kernel, by decide +kernel⟩, List.mem_of_getElem? (i := 765) (by decide +kernel), List.mem_of_getElem? (i := 946) (by decide +kernel), List.mem_of_getElem? (i := 947) (by decide +kernel)⟩
theorem lw_p55 : lw_okq (⟨"PackedDecimalsModel", "bit", "(II)I"⟩, 14) := ⟨⟨by decide +kernel, by decide +kernel⟩, List.mem_of_getElem? (i := 765) (by decide +kernel), List.mem_of_getElem? (i := 950) (by decide +kernel), List.mem_of_getElem? (i := 951) (by decide +kernel)⟩
theorem lw_p56 : lw_okq (⟨"PackedDecimalsModel", "less", "(II)V"⟩, 14) := ⟨⟨by decide +kernel, by decide +kernel⟩, List.mem_of_getElem? (i := 765) (by decide +kernel), List.mem_of_getElem? (i := 954) (by decide +kernel), List.mem_of_getElem? (i := 955) (by decide +kernel)⟩
theorem lw_p57 : lw_okq (⟨"PackedDecimalsModel", "fromLong", "(J)V"⟩, 14) := ⟨⟨by decide +kernel, by decide +kernel⟩, List.mem_of_getElem? (i := 765) (by decide +kernel), List.mem_of_getElem? (i := 959) (by decide +kernel), List.mem_of_getElem? (i := 960) (by decide +kernel)⟩
theorem lw_p58 : lw_okq (⟨"PackedDecimalsModel", "stored", "(I)I"⟩, 14) := ⟨⟨by decide +kernel, by decide +kernel⟩, List.mem_of_getElem? (i := 765) (by decide +kernel), List.mem_of_getElem? (i := 963) (by decide +kernel), List.mem_of_getElem? (i := 964) (by decide +kernel)⟩
theorem lw_p59 : lw_okq (⟨"PackedDecimalsModel", "store", "(I)I"⟩, 14) := ⟨⟨by decide +kernel, by decide +kernel⟩, List.mem_of_getElem? (i := 765) (by decide +kernel), List.mem_of_getElem? (i := 967) (by decide +kernel), List.mem_of_getElem? (i := 968) (by decide +kernel)⟩
theorem lw_p60 : lw_okq (⟨"PackedDecimalsModel", "storeFloat", "(IZ)I"⟩, 14) := ⟨⟨by decide +kernel, by decide +kernel⟩, List.mem_of_getElem? (i := 765) (by decide +kernel), List.mem_of_getElem? (i := 971) (by decide +kernel), List.mem_of_getElem? (i := 972) (by decide +kernel)⟩
theorem lw_p61 : lw_okq (⟨"PackedDecimalsModel", "nearest", "(I)V"⟩, 14) := ⟨⟨by decide +kernel, by decide +kernel⟩, List.mem_of_getElem? (i := 765) (by decide +kernel), List.mem_of_getElem? (i := 975) (by decide +kernel), List.mem_of_getElem? (i := 976) (by decide +kernel)⟩
theorem lw_p62 : lw_okq (⟨"PackedDecimalsModel", "rises", "(II)Z"⟩, 14) := ⟨⟨by decide +kernel, by decide +kernel⟩, List.mem_of_getElem? (i := 765) (by decide +kernel), List.mem_of_getElem? (i := 979) (by decide +kernel), List.mem_of_getElem? (i := 980) (by decide +kernel)⟩
theorem lw_p63 : lw_okq (⟨"PackedDecimalsModel", "put", "(III)V"⟩, 14) := ⟨⟨by decide +kernel, by decide +kernel⟩, List.mem_of_getElem? (i := 765) (by decide +kernel), List.mem_of_getElem? (i := 983) (by decide +kernel), List.mem_of_getElem? (i := 984) (by decide +kernel)⟩
def lw_privs_4 : List (MethodName × Nat) := [(⟨"PackedDecimalsModel", "isMiddle", "(II)Z"⟩, 14), (⟨"PackedDecimalsModel", "copy", "(II)V"⟩, 14), (⟨"PackedDecimalsModel", "second", "()V"⟩, 14), (⟨"PackedDecimalsModel", "wholes", "(IIII)I"⟩, 14), (⟨"PackedDecimalsModel", "whole", "()J"⟩, 14), (⟨"PackedDecimalsModel", "divide", "(II)V"⟩, 14), (⟨"PackedDecimalsModel", "length", "(I)I"⟩, 14), (⟨"PackedDecimalsModel", "bit", "(II)I"⟩, 14), (⟨"PackedDecimalsModel", "less", "(II)V"⟩, 14), (⟨"PackedDecimalsModel", "fromLong", "(J)V"⟩, 14), (⟨"PackedDecimalsModel", "stored", "(I)I"⟩, 14), (⟨"PackedDecimalsModel", "store", "(I)I"⟩, 14), (⟨"PackedDecimalsModel", "storeFloat", "(IZ)I"⟩, 14), (⟨"PackedDecimalsModel", "nearest", "(I)V"⟩, 14), (⟨"PackedDecimalsModel", "rises", "(II)Z"⟩, 14), (⟨"PackedDecimalsModel", "put", "(III)V"⟩, 14)]
theorem lw_r4 : ∀ q ∈ lw_privs_4, lw_okq q := List.forall_mem_cons.mpr ⟨lw_p48, List.forall_mem_cons.mpr ⟨lw_p49, List.forall_mem_cons.mpr ⟨lw_p50, List.forall_mem_cons.mpr ⟨lw_p51, List.forall_mem_cons.mpr ⟨lw_p52, List.forall_mem_cons.mpr ⟨lw_p53, List.forall_mem_cons.mpr ⟨lw_p54, List.forall_mem_cons.mpr ⟨lw_p55, List.forall_mem_cons.mpr ⟨lw_p56, List.forall_mem_cons.mpr ⟨lw_p57, List.forall_mem_cons.mpr ⟨lw_p58, List.forall_mem_cons.mpr ⟨lw_p59, List.forall_mem_cons.mpr ⟨lw_p60, List.forall_mem_cons.mpr ⟨lw_p61, List.forall_mem_cons.mpr ⟨lw_p62, List.forall_mem_cons.mpr ⟨lw_p63, fun _ h => absurd h List.not_mem_nil⟩⟩⟩⟩⟩⟩⟩⟩⟩⟩⟩⟩⟩⟩⟩⟩
theorem lw_p64 : lw_okq (⟨"PackedDecimalsModel", "fits", "(II)Z"⟩, 14) := ⟨⟨by decide +kernel, by decide +kernel⟩, List.mem_of_getElem? (i := 765) (by decide +kernel), List.mem_of_getElem? (i := 987) (by decide +kernel), List.mem_of_getElem? (i := 988) (by decide +kernel)⟩
theorem lw_p65 : lw_okq (⟨"PackedDecimalsModel", "write", "(II)V"⟩, 14) := ⟨⟨by decide +kernel, by decide +kernel⟩, List.mem_of_getElem? (i := 765) (by decide +kernel), List.mem_of_getElem? (i := 991) (by decide +kernel), List.mem_of_getElem? (i := 992) (by decide +kernel)⟩
theorem lw_p66 : lw_okq (⟨"PackedDecimalsModel", "writeBinary", "(II)V"⟩, 14) := ⟨⟨by decide +kernel, by decide +kernel⟩, List.mem_of_getElem? (i := 765) (by decide +kernel), List.mem_of_getElem? (i := 995) (by decide +kernel), List.mem_of_getElem? (i := 996) (by decide +kernel)⟩
theorem lw_p67 : lw_okq (⟨"PackedDecimalsModel", "sum", "(I)V"⟩, 14) := ⟨⟨by decide +kernel, by decide +kernel⟩, List.mem_of_getElem? (i := 765) (by decide +kernel), List.mem_of_getElem? (i := 999) (by decide +kernel), List.mem_of_getElem? (i := 1000) (by decide +kernel)⟩
theorem lw_p68 : lw_okq (⟨"PackedDecimalsModel", "product", "(III)V"⟩, 14) := ⟨⟨by decide +kernel, by decide +kernel⟩, List.mem_of_getElem? (i := 765) (by decide +kernel), List.mem_of_getElem? (i := 1003) (by decide +kernel), List.mem_of_getElem? (i := 1004) (by decide +kernel)⟩
theorem lw_p69 : lw_okq (⟨"PackedDecimalsModel", "add", "(II)V"⟩, 14) := ⟨⟨by decide +kernel, by decide +kernel⟩, List.mem_of_getElem? (i := 765) (by decide +kernel), List.mem_of_getElem? (i := 1007) (by decide +kernel), List.mem_of_getElem? (i := 1008) (by decide +kernel)⟩
theorem lw_p70 : lw_okq (⟨"PackedDecimalsModel", "exactly", "(I)V"⟩, 14) := ⟨⟨by decide +kernel, by decide +kernel⟩, List.mem_of_getElem? (i := 765) (by decide +kernel), List.mem_of_getElem? (i := 1011) (by decide +kernel), List.mem_of_getElem? (i := 1012) (by decide +kernel)⟩
def lw_privs_5 : List (MethodName × Nat) := [(⟨"PackedDecimalsModel", "fits", "(II)Z"⟩, 14), (⟨"PackedDecimalsModel", "write", "(II)V"⟩, 14), (⟨"PackedDecimalsModel", "writeBinary", "(II)V"⟩, 14), (⟨"PackedDecimalsModel", "sum", "(I)V"⟩, 14), (⟨"PackedDecimalsModel", "product", "(III)V"⟩, 14), (⟨"PackedDecimalsModel", "add", "(II)V"⟩, 14), (⟨"PackedDecimalsModel", "exactly", "(I)V"⟩, 14)]
theorem lw_r5 : ∀ q ∈ lw_privs_5, lw_okq q := List.forall_mem_cons.mpr ⟨lw_p64, List.forall_mem_cons.mpr ⟨lw_p65, List.forall_mem_cons.mpr ⟨lw_p66, List.forall_mem_cons.mpr ⟨lw_p67, List.forall_mem_cons.mpr ⟨lw_p68, List.forall_mem_cons.mpr ⟨lw_p69, List.forall_mem_cons.mpr ⟨lw_p70, fun _ h => absurd h List.not_mem_nil⟩⟩⟩⟩⟩⟩⟩
def lw_privs : List (MethodName × Nat) := lw_privs_1 ++ (lw_privs_2 ++ (lw_privs_3 ++ (lw_privs_4 ++ (lw_privs_5))))
def lw_tbl : List Cond := k2_sels lw_privs ++ tables_1
theorem lw_privs_ok : ∀ q ∈ lw_privs, lw_okq q := by
  show ∀ q ∈ lw_privs_1 ++ (lw_privs_2 ++ (lw_privs_3 ++ (lw_privs_4 ++ (lw_privs_5)))), lw_okq q
  exact List.forall_mem_append.mpr ⟨lw_r1, List.forall_mem_append.mpr ⟨lw_r2, List.forall_mem_append.mpr ⟨lw_r3, List.forall_mem_append.mpr ⟨lw_r4, lw_r5⟩⟩⟩⟩
end
section
/-! ===== BEGIN words of one list among another's, by their places ===== -/
theorem goodIn_r {big : List Cond} (ws : List Cond) (ps : List Nat) (hp : ws = ps.filterMap (fun i => big[i]?)) (h : ws.all goodWord = true) : GoodIn big ws := by
  intro w hw
  have h1 := List.all_eq_true.mp h w hw
  rw [hp] at hw
  obtain ⟨i, -, hi⟩ := List.mem_filterMap.mp hw
  have hm : w ∈ big := by first | exact List.mem_of_getElem? hi | exact List.getElem?_mem hi
  exact ⟨hm, good_of_word h1⟩
theorem goodIn_app {big a b : List Cond} (ha : GoodIn big a) (hb : GoodIn big b) : GoodIn big (a ++ b) := fun w h => (List.mem_append.mp h).elim (ha w) (hb w)
theorem goodIn_ca {big a b : List Cond} {c : Cond} (ha : GoodIn big (c :: a)) (hb : GoodIn big b) : GoodIn big (c :: (a ++ b)) := fun w h => (List.mem_cons.mp h).elim (fun e => ha w (List.mem_cons.mpr (Or.inl e))) (fun h => (List.mem_append.mp h).elim (fun h => ha w (List.mem_cons.mpr (Or.inr h))) (hb w))
theorem goodIn_sub {big ws : List Cond} (hm : ∀ w ∈ ws, w ∈ big) (h : ws.all goodWord = true) : GoodIn big ws := fun w hw => ⟨hm w hw, good_of_word (List.all_eq_true.mp h w hw)⟩
/-! ===== END ===== -/

/-! ===== BEGIN exceptions that leave a method, and their catching by the caller (launches without stack traces) ===== -/
section VXA
/-! The laws vx_back, vx_callV, vx_callS, vx_callSW, vx_throw0, vx_throwS follow proofs of the library, with one case more: JvmDerived/Free/Laws.lean (Back.of_free), Shelf42/LK1.lean (callV, callS), Shelf/KitTraced.lean (throwNew0V, throwNewS). -/
/-- where a method has thrown q: the class by its name, the cell, what was written, the world -/
def vx_T (XC : String → State → State → Prop) (st : State) (q : Addr) (t : State) (mc ms : Nat) (free : Addr → Prop) : Prop :=
  ∃ (E : String) (ce : Cell) (L : List Loc), XC E st t ∧ t.heap[q]? = some ce ∧ ce.vm = .none ∧ st.vm.findClass E = some ce.cls ∧ st.WarmedH t.vm ∧ st.sameButNew ({ t with vm := st.vm } : State) L mc ms ∧ ∀ z ∈ L, free z.base
def vx_Q (Qc : Array Value → State → Outcome → State → Prop) (XC : String → State → State → Prop) (mc ms : Nat) (free : Addr → Prop) : Array Value → State → Outcome → State → Prop := fun a st o t =>
  (Qc a st o t ∧ ∃ L, FrameEnd st o t L mc ms ∧ ∀ q ∈ L, free q.base) ∨ ∃ q, o = .threw q ∧ vx_T XC st q t mc ms free
/-- a callee that returns or throws -/
def vx_Met (l : Launch) (y : MethodName) (ws : List Cond) (rm : Room) (Pc : Array Value → State → Prop) (Qc : Array Value → State → Outcome → State → Prop) (XC : String → State → State → Prop) (mc ms : Nat) (free : Addr → Prop) : Prop :=
  MetFree l y (headSpec ws rm) Pc (fun _ _ _ _ _ => True) (vx_Q Qc XC mc ms free)
def vx_Post (XC : String → State → State → Prop) (mc ms : Nat) (free : Addr → Prop) : Pt → Array Value → Addr → Pt → Prop := fun A a q B =>
  ∃ (g : JFrame) (mk : MethodId) (t : State) (L : List Loc) (E : String) (ce : Cell), B.U.heap = t.heap ∧ B.U.vm = t.vm ∧ XC E (A.U.calling g mk a) t ∧ t.heap[q]? = some ce ∧ ce.vm = .none ∧ A.U.vm.findClass E = some ce.cls ∧ B.locs = A.locs ++ L ∧ (∀ z ∈ L, free z.base) ∧ B.cells = A.cells + mc ∧ B.slots = A.slots + ms
def vx_Back (l : Launch) (R : Room) (p : Program) (e : Env) (below : List Frame) (s : State) (sargs : Array Value) (y : MethodName) (len W9 : Nat)
    (Pre : Pt → Array Value → Prop) (Post : Pt → Array Value → Option Value → Pt → Prop) (PostX : Pt → Array Value → Addr → Pt → Prop) : Prop :=
  ∀ (m : MethodId) (meth : Method) (c : Code) (A : Pt) (g : JFrame) (ig : Instr) (mk : MethodId) (a : Array Value),
    Stand p l e R s m sargs below meth c A.U A.locs A.cells A.slots → g.method = m → g.locals.size = c.maxLocals → decode c.code g.pc = .ok (ig, len) →
    2 * g.monitorRoom + (g.stack.map fun v => v.category).sum ≤ W9 → A.U.methodNamed? y = some mk → Pre A a →
    (∃ (v : Option Value) (B : Pt), Stand p l e R s m sargs below meth c B.U B.locs B.cells B.slots ∧ Post A a v B ∧
      Steps p.tables e below (doInvoke e (A.U.setTop g) [] mk a).1 (B.U.setTop { g with pc := g.pc + len, stack := v.toList ++ g.stack })) ∨
    (∃ (q : Addr) (B : Pt), Stand p l e R s m sargs below meth c B.U B.locs B.cells B.slots ∧ PostX A a q B ∧
      Steps p.tables e below (doInvoke e (A.U.setTop g) [] mk a).1 ((B.U.setTop g).pushFrame (.throwing q)))
section Payer
variable {l : Launch} {R : Room} {p : Program} {e : Env} {below : List Frame} {s : State} {sargs : Array Value} {y : MethodName} {len W9 : Nat}
theorem vx_back {ws : List Cond} {rm : Room} {Pc : Array Value → State → Prop} {Qc : Array Value → State → Outcome → State → Prop} {XC : String → State → State → Prop} {mc ms : Nat} {free : Addr → Prop} {bytes : ByteArray} {maxL : Nat} {ret : Option FieldType}
    (hM : vx_Met l y ws rm Pc Qc XC mc ms free) (hblind : FrameBlind Pc) (hrc : rm.cells = mc) (hrs : rm.slots = ms)
    (hframes : rm.frames + 1 ≤ R.frames) (hlocals : W9 + (maxL + 11) + rm.locals ≤ R.locals)
    (hws : ∀ w ∈ ws, ∀ a' U, s.WarmedH U.vm → w.before a' U = true) (hcode : Cond.code y bytes maxL ret ∈ ws) (hinit : ∀ a' U, s.WarmedH U.vm → (Cond.initialized y.cls).before a' U = true) :
    vx_Back l R p e below s sargs y len W9 (PreOf R mc ms Pc) (PostOf Qc mc ms free) (vx_Post XC mc ms free) := by
  intro m meth c A g ig mk a X hg hsize hdg hW hn hp
  have h1 : (headSpec ws rm).pre.before a A.U = true := atoms_intro fun w hw => hws w hw _ _ X.warmed
  have h2 : (Cond.code y bytes maxL ret).before a A.U = true := hws _ hcode _ _ X.warmed
  have h3 : (Cond.initialized y.cls).before a A.U = true := hinit _ _ X.warmed
  have h4 : A.cells + (headSpec ws rm).room.cells ≤ R.cells := by rw [show (headSpec ws rm).room.cells = mc from hrc]; exact hp.1
  have h5 : A.slots + (headSpec ws rm).room.slots ≤ R.slots := by rw [show (headSpec ws rm).room.slots = ms from hrs]; exact hp.2.1
  have hPc : Pc a (A.U.calling g mk a) := hblind _ _ _ _ hp.2.2
  obtain ⟨U, Ls, c0, s0⟩ := A
  dsimp only [Pt.U, Pt.locs, Pt.cells, Pt.slots] at h1 h2 h3 h4 h5 X hn hPc ⊢
  obtain ⟨methY, cY, hmY, hcY, -, hlY, -, -, -, -⟩ := Cond.code_spec hn h2
  obtain ⟨kY, hkY, -⟩ := className_of_methodNamed hn
  have hinitY : kY.init = .initialized := Cond.initialized_spec (findClass_of_methodNamed hn) hkY h3
  have h : At U g.method c below := by rw [hg]; exact X.here
  have hlocals9 : W9 + (maxL + 11) + (headSpec ws rm).room.locals ≤ R.locals := hlocals
  have happ : (headSpec ws rm).appliesLoose y e.platform (U.calling g mk a) = true :=
    Spec.appliesLoose_calling (g := g) h hdg hn hkY hinitY
      (X.room_calling (g := g) (R' := (headSpec ws rm).room) hsize hmY hcY hframes (by rw [hlY]; omega) h4 h5) h1
  obtain ⟨mid, hmid⟩ := h.above
  have hfr : (U.setTop g).frames = (.java g :: mid) ++ below := by rw [State.frames_setTop' g h.top, hmid]; rfl
  obtain ⟨o, s₂, hsteps, -, hend, hq⟩ := Steps.callFree hM p X.admits X.cas X.clock (acts := []) hfr happ hPc trivial
  have hq' : vx_Q Qc XC mc ms free a (U.calling g mk a) o s₂ := hq
  rw [State.frames_setTop' g h.top] at hend
  obtain ⟨g₀, hg0⟩ := Option.isSome_iff_exists.mp h.top
  obtain ⟨r, hr⟩ := State.topJava?_eq_some.mp hg0
  have hr' : (({ U with heap := s₂.heap, slotsUsed := s₂.slotsUsed } : State).setVm s₂.vm).frames = .java g₀ :: r := hr
  rcases hq' with ⟨hqc, L, hfe, hL⟩ | ⟨q, rfl, E, ce, L, hx, hce, hcv, hcl, hW₂, hsm, hL⟩
  · obtain ⟨⟨v, rfl⟩, hW₂, e2, q2, q3, q4, q5, q6⟩ := id hfe
    have e3 : s₂ = ({ (U.calling g mk a).setFrames s₂.frames with heap := s₂.heap, slotsUsed := s₂.slotsUsed } : State).setVm s₂.vm := by
      have : s₂ = ({ s₂ with vm := (U.calling g mk a).vm } : State).setVm s₂.vm := rfl
      rw [e2] at this
      exact this
    obtain ⟨c₂, i₂, len₂, hc₂, hd₂, hf₂⟩ := hend
    have hW' : U.WarmedH s₂.vm := hW₂
    have hcc : c₂ = c := by
      have h1 : s₂.code? g.method = U.code? g.method := by
        rw [State.code?_eq, State.code?_eq, hW'.alike.method?]
      exact Option.some.inj (hc₂.symm.trans (h1.trans h.code))
    subst hcc
    have hlen : len₂ = len := by rw [hdg] at hd₂; cases hd₂; rfl
    subst hlen
    have hs₂ : s₂ = (({ U with heap := s₂.heap, slotsUsed := s₂.slotsUsed } : State).setVm s₂.vm).setTop { g with pc := g.pc + len₂, stack := v.toList ++ g.stack } := by
      refine e3.trans ?_
      rw [hf₂, State.calling_eq h.top, State.setFrames_setFrames, State.setTop_of_frames _ hr', hr]
      rfl
    have hsame : U.sameButNew ({ U with heap := s₂.heap, slotsUsed := s₂.slotsUsed } : State) L mc ms := by
      refine ⟨?_, q2, q3, q4, q5, q6⟩
      obtain ⟨t, ht, -⟩ := State.frames_cons hr
      show ({ U with heap := s₂.heap, slotsUsed := s₂.slotsUsed } : State) = { U.setFrames U.frames with heap := s₂.heap, slotsUsed := s₂.slotsUsed }
      rw [State.setFrames_self ht]
    subst hg
    refine Or.inl ⟨v, ⟨(({ U with heap := s₂.heap, slotsUsed := s₂.slotsUsed } : State).setVm s₂.vm), Ls ++ L, c0 + mc, s0 + ms⟩,
      ⟨X.admits, X.cas, X.clock, X.frames, X.room, X.hears, X.method, X.code, (X.here.setHeapUsed s₂.heap s₂.slotsUsed).setVm hW'.alike, X.tail, State.WarmedH.trans X.warmed hW', X.limits, X.bytes, X.same.trans (hsame.setVm s.vm)⟩,
      ⟨g, mk, s₂, L, rfl, rfl, hqc, rfl, hL, rfl, rfl⟩, ?_⟩
    show Steps p.tables e below _ ((({ U with heap := s₂.heap, slotsUsed := s₂.slotsUsed } : State).setVm s₂.vm).setTop { g with pc := g.pc + len₂, stack := v.toList ++ g.stack })
    rw [← hs₂]
    exact hsteps
  · obtain ⟨e2, q2, q3, q4, q5, q6⟩ := id hsm
    have e3 : s₂ = ({ (U.calling g mk a).setFrames s₂.frames with heap := s₂.heap, slotsUsed := s₂.slotsUsed } : State).setVm s₂.vm := by
      have : s₂ = ({ s₂ with vm := (U.calling g mk a).vm } : State).setVm s₂.vm := rfl
      rw [e2] at this
      exact this
    have hf₂ : s₂.frames = .throwing q :: .java g :: U.frames.tail := hend
    have hW' : U.WarmedH s₂.vm := hW₂
    have hs₂ : s₂ = ((({ U with heap := s₂.heap, slotsUsed := s₂.slotsUsed } : State).setVm s₂.vm).setTop g).pushFrame (.throwing q) := by
      refine e3.trans ?_
      rw [hf₂, State.calling_eq h.top, State.setFrames_setFrames, State.pushFrame, State.frames_setTop _ hr', State.setTop_of_frames _ hr', State.setFrames_setFrames, hr]
      rfl
    have hsame : U.sameButNew ({ U with heap := s₂.heap, slotsUsed := s₂.slotsUsed } : State) L mc ms := by
      refine ⟨?_, q2, q3, q4, q5, q6⟩
      obtain ⟨t, ht, -⟩ := State.frames_cons hr
      show ({ U with heap := s₂.heap, slotsUsed := s₂.slotsUsed } : State) = { U.setFrames U.frames with heap := s₂.heap, slotsUsed := s₂.slotsUsed }
      rw [State.setFrames_self ht]
    subst hg
    refine Or.inr ⟨q, ⟨(({ U with heap := s₂.heap, slotsUsed := s₂.slotsUsed } : State).setVm s₂.vm), Ls ++ L, c0 + mc, s0 + ms⟩,
      ⟨X.admits, X.cas, X.clock, X.frames, X.room, X.hears, X.method, X.code, (X.here.setHeapUsed s₂.heap s₂.slotsUsed).setVm hW'.alike, X.tail, State.WarmedH.trans X.warmed hW', X.limits, X.bytes, X.same.trans (hsame.setVm s.vm)⟩,
      ⟨g, mk, s₂, L, E, ce, rfl, rfl, hx, hce, hcv, hcl, rfl, hL, rfl, rfl⟩, ?_⟩
    show Steps p.tables e below _ (((({ U with heap := s₂.heap, slotsUsed := s₂.slotsUsed } : State).setVm s₂.vm).setTop g).pushFrame (.throwing q))
    rw [← hs₂]
    exact hsteps
end Payer
section Calls
variable {p : Program} {l : Launch} {e : Env} {R : Room} {s : State} {m : MethodId} {args : Array Value} {below : List Frame} {meth : Method} {c : Code} {T : State} {locs : List Loc} {cells slots : Nat}
theorem vx_callV (X : Stand p l e R s m args below meth c T locs cells slots) (hexec : p.tables.exec = Jvm.exec) {own C : String} {index : Nat} {y : MethodName} {bytes : ByteArray} {maxL : Nat} {ret : Option FieldType}
    (hown : s.vm.findClass own = some m.cls) (hlink : (Cond.methodLink own index y).before args s = true) (hinst : (Cond.instanceMethod y).before args s = true) (hsel : (Cond.selects C y y).before args s = true)
    (hcode : (Cond.code y bytes maxL ret).before args s = true) (hy : y.cls ≠ "java/lang/invoke/MethodHandle" ∧ y.cls ≠ "java/lang/invoke/VarHandle")
    {W9 : Nat} {Pre : Pt → Array Value → Prop} {Post : Pt → Array Value → Option Value → Pt → Prop} {PostX : Pt → Array Value → Addr → Pt → Prop} (hK : vx_Back l R p e below s args y 3 W9 Pre Post PostX)
    {b : Addr} {cellB : Cell} (hcell : T.heap[b]? = some cellB) (hobj : cellB.vm.isStatics = false) (hcls : s.vm.findClass C = some cellB.cls)
    {g : JFrame} (hg : g.method = m) (hsize : g.locals.size = c.maxLocals) {argsL rest : List Value} (hlen : ∀ sig, parseMethodDescriptor y.desc = some sig → argsL.length = sig.parameters.length)
    (hstack : g.stack = argsL.reverse ++ .ref b :: rest) (hW : 2 * g.monitorRoom + (rest.map fun v => v.category).sum ≤ W9) (hdg : decode c.code g.pc = .ok (.invokevirtual index, 3))
    (hpre : ∀ vm₁, s.WarmedH vm₁ → Pre ⟨T.setVm vm₁, locs, cells, slots⟩ (Value.ref b :: argsL).toArray) :
    (∃ (v : Option Value) (vm₁ : Vm) (B : Pt), s.WarmedH vm₁ ∧ Stand p l e R s m args below meth c B.U B.locs B.cells B.slots ∧ Post ⟨T.setVm vm₁, locs, cells, slots⟩ (Value.ref b :: argsL).toArray v B ∧
      ∀ target, Steps p.tables e below (B.U.setTop { g with pc := g.pc + 3, stack := v.toList ++ rest }) target → Steps p.tables e below (T.setTop g) target) ∨
    (∃ (q : Addr) (vm₁ : Vm) (B : Pt), s.WarmedH vm₁ ∧ Stand p l e R s m args below meth c B.U B.locs B.cells B.slots ∧ PostX ⟨T.setVm vm₁, locs, cells, slots⟩ (Value.ref b :: argsL).toArray q B ∧
      Steps p.tables e below (T.setTop g) ((B.U.setTop { g with stack := rest }).pushFrame (.throwing q))) := by
  obtain ⟨mk, methM, hnamed, hmethM, hstM, habM⟩ := Cond.instanceMethod_spec hinst
  obtain ⟨methM', cM, hmethM', -, -, -, -, -, -, hsigM⟩ := Cond.code_spec hnamed hcode
  cases hmethM.symm.trans hmethM'
  obtain ⟨c2, r2, m2, q1, q2, q3, q4, kP, hkP, hkPi⟩ := Cond.selects_spec hsel
  cases hcls.symm.trans q1
  cases (State.methodFound?_of_named hnamed hy).symm.trans q2
  cases hnamed.symm.trans q3
  have hselP : selectMethod e.platform s.vm cellB.cls mk = .method mk := by rw [Launch.admits_selectMethod X.admits]; exact q4
  obtain ⟨vm₁, X₁, hstep₁⟩ := X.invokevirtual hexec hown hlink hnamed hmethM hstM hkP hkPi hy (a := b) (cell := cellB) hcell
    (fun z h => by rw [h] at hobj; cases hobj) hselP hmethM habM hkP hkPi (g := g) hg (argsL := argsL) (rest := rest) (hlen _ hsigM) hstack hdg
  rcases hK m meth c ⟨T.setVm vm₁, locs, cells, slots⟩ { g with stack := rest } (.invokevirtual index) mk (Value.ref b :: argsL).toArray X₁ hg hsize hdg hW (X₁.named hnamed) (hpre vm₁ X₁.warmed) with ⟨v, B, X', hpost, hsteps⟩ | ⟨q, B, X', hpost, hsteps⟩
  · exact Or.inl ⟨v, vm₁, B, X₁.warmed, X', hpost, fun target h => hstep₁ _ fun acts => by rw [doInvoke_state]; exact hsteps.trans h⟩
  · exact Or.inr ⟨q, vm₁, B, X₁.warmed, X', hpost, hstep₁ _ fun acts => by rw [doInvoke_state]; exact hsteps⟩
theorem vx_callS (X : Stand p l e R s m args below meth c T locs cells slots) (hexec : p.tables.exec = Jvm.exec) {own : String} {index : Nat} {y : MethodName} {bytes : ByteArray} {maxL : Nat} {ret : Option FieldType}
    (hown : s.vm.findClass own = some m.cls) (hlink : (Cond.methodLink own index y).before args s = true) (hstat : (Cond.static y).before args s = true) (hinit : (Cond.initialized y.cls).before args s = true)
    (hcode : (Cond.code y bytes maxL ret).before args s = true) (hy : y.cls ≠ "java/lang/invoke/MethodHandle" ∧ y.cls ≠ "java/lang/invoke/VarHandle")
    {W9 : Nat} {Pre : Pt → Array Value → Prop} {Post : Pt → Array Value → Option Value → Pt → Prop} {PostX : Pt → Array Value → Addr → Pt → Prop} (hK : vx_Back l R p e below s args y 3 W9 Pre Post PostX)
    {g : JFrame} (hg : g.method = m) (hsize : g.locals.size = c.maxLocals) {argsL rest : List Value} (hlen : ∀ sig, parseMethodDescriptor y.desc = some sig → argsL.length = sig.parameters.length)
    (hstack : g.stack = argsL.reverse ++ rest) (hW : 2 * g.monitorRoom + (rest.map fun v => v.category).sum ≤ W9) (hdg : decode c.code g.pc = .ok (.invokestatic index, 3))
    (hpre : ∀ vm₁, s.WarmedH vm₁ → Pre ⟨T.setVm vm₁, locs, cells, slots⟩ argsL.toArray) :
    (∃ (v : Option Value) (vm₁ : Vm) (B : Pt), s.WarmedH vm₁ ∧ Stand p l e R s m args below meth c B.U B.locs B.cells B.slots ∧ Post ⟨T.setVm vm₁, locs, cells, slots⟩ argsL.toArray v B ∧
      ∀ target, Steps p.tables e below (B.U.setTop { g with pc := g.pc + 3, stack := v.toList ++ rest }) target → Steps p.tables e below (T.setTop g) target) ∨
    (∃ (q : Addr) (vm₁ : Vm) (B : Pt), s.WarmedH vm₁ ∧ Stand p l e R s m args below meth c B.U B.locs B.cells B.slots ∧ PostX ⟨T.setVm vm₁, locs, cells, slots⟩ argsL.toArray q B ∧
      Steps p.tables e below (T.setTop g) ((B.U.setTop { g with stack := rest }).pushFrame (.throwing q))) := by
  obtain ⟨mk, hnamed⟩ := Cond.code_named hcode
  obtain ⟨methM, cM, hmethM, -, -, -, -, -, -, hsigM⟩ := Cond.code_spec hnamed hcode
  have hstatic : methM.isStatic = true := Cond.static_spec hnamed hmethM hstat
  obtain ⟨kP, hkP, -⟩ := className_of_methodNamed hnamed
  have hinitP : kP.init = .initialized := Cond.initialized_spec (findClass_of_methodNamed hnamed) hkP hinit
  obtain ⟨vm₁, X₁, hstep₁⟩ := X.invokestatic hexec hown hlink hnamed hmethM hstatic hkP hinitP hy (g := g) hg (argsL := argsL) (rest := rest) (hlen _ hsigM) hstack hdg
  rcases hK m meth c ⟨T.setVm vm₁, locs, cells, slots⟩ { g with stack := rest } (.invokestatic index) mk argsL.toArray X₁ hg hsize hdg hW (X₁.named hnamed) (hpre vm₁ X₁.warmed) with ⟨v, B, X', hpost, hsteps⟩ | ⟨q, B, X', hpost, hsteps⟩
  · exact Or.inl ⟨v, vm₁, B, X₁.warmed, X', hpost, fun target h => hstep₁ _ fun acts => by rw [doInvoke_state]; exact hsteps.trans h⟩
  · exact Or.inr ⟨q, vm₁, B, X₁.warmed, X', hpost, hstep₁ _ fun acts => by rw [doInvoke_state]; exact hsteps⟩
end Calls
theorem vx_cls {s : State} {T : State} {vm₁ : Vm} {E : String} {k : ClassId} (hW : s.WarmedH vm₁) (h : (T.setVm vm₁).vm.findClass E = some k) : s.vm.findClass E = some k := by
  have h1 : vm₁.findClass E = some k := h
  rw [hW.alike.findClass] at h1
  exact h1
/-- the method's frame g, with q thrown over it -/
def vx_W (p : Program) (l : Launch) (e : Env) (R : Room) (s : State) (m : MethodId) (args : Array Value) (below : List Frame) (meth : Method) (c : Code) (H : Heap) (locs : List Loc) (cells slots : Nat) (Q : State → Prop) (g : JFrame) (q : Addr) : Prop :=
  ∀ T : State, T.heap = H → Stand p l e R s m args below meth c T locs cells slots → ∃ t, Steps p.tables e below ((T.setTop g).pushFrame (.throwing q)) t ∧ Q t
def vx_Run (p : Program) (l : Launch) (e : Env) (R : Room) (s : State) (m : MethodId) (args : Array Value) (below : List Frame) (meth : Method) (c : Code) (H : Heap) (locs : List Loc) (cells slots mc ms : Nat) (g : JFrame) (rest : List Value) (Qa : State → Outcome → State → Prop) (XC : String → State → State → Prop) (free : Addr → Prop) : Prop :=
  ∀ T : State, T.heap = H → Stand p l e R s m args below meth c T locs cells slots →
    (∃ (v : Option Value) (st₀ t T' : State) (L : List Loc), st₀.heap = H ∧ Stand p l e R s m args below meth c T' (locs ++ L) (cells + mc) (slots + ms) ∧ (∀ q ∈ L, free q.base) ∧ T'.heap = t.heap ∧ T'.vm = t.vm ∧ Qa st₀ (.returned v) t ∧
      Goes p e below T g T' { g with pc := g.pc + 3, stack := v.toList ++ rest }) ∨
    (∃ (q : Addr) (st₀ t T' : State) (L : List Loc) (E : String) (ce : Cell), st₀.heap = H ∧ Stand p l e R s m args below meth c T' (locs ++ L) (cells + mc) (slots + ms) ∧ (∀ z ∈ L, free z.base) ∧ T'.heap = t.heap ∧ T'.vm = t.vm ∧ XC E st₀ t ∧ t.heap[q]? = some ce ∧ ce.vm = .none ∧ s.vm.findClass E = some ce.cls ∧
      Steps p.tables e below (T.setTop g) ((T'.setTop { g with stack := rest }).pushFrame (.throwing q)))
def vx_X {S : Type} (px : S → Prop) (B : String → S → State → Prop) (A : Nat → Prop) : String → State → State → Prop := fun E st t => ∃ u : S, px u ∧ B E u t ∧ va_F A st t
section Runs
variable {p : Program} {l : Launch} {e : Env} {R : Room} {s : State} {m : MethodId} {args : Array Value} {below : List Frame} {meth : Method} {c : Code} {H : Heap} {locs : List Loc} {cells slots : Nat}
variable {y : MethodName} {bytes cc : ByteArray} {maxL nL mc ms n index : Nat} {ret : Option FieldType} {ws : List Cond} {rm : Room} {Pc : Array Value → State → Prop} {Qc : Array Value → State → Outcome → State → Prop} {XC : String → State → State → Prop} {free : Addr → Prop} {Ts : List Cond} {own C : String} {b : Addr} {As rest : List Value} {g : JFrame}
theorem vx_callBack (cb : CallB R s args own index y bytes maxL ret ws rm mc ms n) (hM : vx_Met l y ws rm Pc Qc XC mc ms free) (hbl : FrameBlind Pc) : vx_Back l R p e below s args y 3 8 (PreOf R mc ms Pc) (PostOf Qc mc ms free) (vx_Post XC mc ms free) := by
  obtain ⟨hrc, hrs, hfr, hlo, hws, hcw, -, hini, -⟩ := cb
  exact vx_back (bytes := bytes) (maxL := maxL) (ret := ret) hM hbl hrc hrs hfr hlo hws hcw (fun a' U hW => word_at hW (Or.inl (by first | rfl | simp [Cond.onTables, Cond.keeps, Cond.steady])) hini)
theorem vx_runV (S : CallFix p m c cc nL s args Ts own) (hM : vx_Met l y ws rm Pc Qc XC mc ms free) (cw : CallW R s args own C index y bytes maxL ret ws rm mc ms n) (hp : PreV s H C b Pc As)
    (hg : g.method = m) (hn : As.length = n) (hsize : g.locals.size = nL) (hstack : g.stack = As.reverse ++ .ref b :: rest) (hW : 2 * g.monitorRoom + (rest.map fun v => v.category).sum ≤ 8) (hdg : decode cc g.pc = .ok (.invokevirtual index, 3)) (hf : cells + mc ≤ R.cells ∧ slots + ms ≤ R.slots) :
    vx_Run p l e R s m args below meth c H locs cells slots mc ms g rest (Qc (Value.ref b :: As).toArray) XC free := by
  have hK : vx_Back l R p e below s args y 3 8 (PreOf R mc ms Pc) (PostOf Qc mc ms free) (vx_Post XC mc ms free) := vx_callBack cw.1 hM hp.1
  obtain ⟨⟨-, -, -, -, -, -, hcode, -, hy, hlen, hl⟩, hin, hse⟩ := cw
  obtain ⟨hx, hb, hml, ho, -⟩ := S
  obtain ⟨-, ⟨cellB, hcB, hoB, hclB⟩, hPc⟩ := hp
  intro T hT X
  rcases vx_callV X hx (C := C) (bytes := bytes) (maxL := maxL) (ret := ret) ho hl hin hse hcode hy hK (by rw [hT]; exact hcB) hoB hclB hg (hsize.trans hml.symm) (argsL := As) (rest := rest) (fun sig h => hn.trans (hlen sig h)) hstack hW (by rw [hb]; exact hdg)
    (fun vm₁ hW₁ => ⟨hf.1, hf.2, hPc (T.setVm vm₁) hT hW₁⟩) with ⟨v, vm₁, ⟨U', l2, c2, s2⟩, hW₁, X', ⟨g', mk, t, L, e1, e2, hq, h1, hL, h2, h3⟩, st⟩ | ⟨q, vm₁, ⟨U', l2, c2, s2⟩, hW₁, X', ⟨g', mk, t, L, E, ce, e1, e2, hq, hce, hcv, hcl, h1, hL, h2, h3⟩, st⟩
  · dsimp only [Pt.U, Pt.locs, Pt.cells, Pt.slots] at X' e1 e2 h1 h2 h3 st
    subst h1; subst h2; subst h3
    exact Or.inl ⟨v, (T.setVm vm₁).calling g' mk (Value.ref b :: As).toArray, t, U', L, hT, X', hL, e1, e2, hq, st⟩
  · dsimp only [Pt.U, Pt.locs, Pt.cells, Pt.slots] at X' e1 e2 h1 h2 h3 st hcl
    subst h1; subst h2; subst h3
    exact Or.inr ⟨q, (T.setVm vm₁).calling g' mk (Value.ref b :: As).toArray, t, U', L, E, ce, hT, X', hL, e1, e2, hq, hce, hcv, vx_cls hW₁ hcl, st⟩
theorem vx_runS (S : CallFix p m c cc nL s args Ts own) (hM : vx_Met l y ws rm Pc Qc XC mc ms free) (cw : CallB R s args own index y bytes maxL ret ws rm mc ms n ∧ (Cond.static y).before args s = true) (hp : PreS s H Pc As)
    (hg : g.method = m) (hn : As.length = n) (hsize : g.locals.size = nL) (hstack : g.stack = As.reverse ++ rest) (hW : 2 * g.monitorRoom + (rest.map fun v => v.category).sum ≤ 8) (hdg : decode cc g.pc = .ok (.invokestatic index, 3)) (hf : cells + mc ≤ R.cells ∧ slots + ms ≤ R.slots) :
    vx_Run p l e R s m args below meth c H locs cells slots mc ms g rest (Qc As.toArray) XC free := by
  have hK : vx_Back l R p e below s args y 3 8 (PreOf R mc ms Pc) (PostOf Qc mc ms free) (vx_Post XC mc ms free) := vx_callBack cw.1 hM hp.1
  obtain ⟨⟨-, -, -, -, -, -, hcode, hini, hy, hlen, hl⟩, hstt⟩ := cw
  obtain ⟨hx, hb, hml, ho, -⟩ := S
  intro T hT X
  rcases vx_callS X hx (bytes := bytes) (maxL := maxL) (ret := ret) ho hl hstt hini hcode hy hK hg (hsize.trans hml.symm) (argsL := As) (rest := rest) (fun sig h => hn.trans (hlen sig h)) hstack hW (by rw [hb]; exact hdg)
    (fun vm₁ hW₁ => ⟨hf.1, hf.2, hp.2 (T.setVm vm₁) hT hW₁⟩) with ⟨v, vm₁, ⟨U', l2, c2, s2⟩, hW₁, X', ⟨g', mk, t, L, e1, e2, hq, h1, hL, h2, h3⟩, st⟩ | ⟨q, vm₁, ⟨U', l2, c2, s2⟩, hW₁, X', ⟨g', mk, t, L, E, ce, e1, e2, hq, hce, hcv, hcl, h1, hL, h2, h3⟩, st⟩
  · dsimp only [Pt.U, Pt.locs, Pt.cells, Pt.slots] at X' e1 e2 h1 h2 h3 st
    subst h1; subst h2; subst h3
    exact Or.inl ⟨v, (T.setVm vm₁).calling g' mk As.toArray, t, U', L, hT, X', hL, e1, e2, hq, st⟩
  · dsimp only [Pt.U, Pt.locs, Pt.cells, Pt.slots] at X' e1 e2 h1 h2 h3 st hcl
    subst h1; subst h2; subst h3
    exact Or.inr ⟨q, (T.setVm vm₁).calling g' mk As.toArray, t, U', L, E, ce, hT, X', hL, e1, e2, hq, hce, hcv, vx_cls hW₁ hcl, st⟩
end Runs
section Rows
variable {p : Program} {l : Launch} {e : Env} {R : Room} {s : State} {m : MethodId} {args : Array Value} {below : List Frame} {meth : Method} {c : Code} {H : Heap} {locs : List Loc} {cells slots : Nat} {Q : State → Prop}
variable {mc ms : Nat} {free : Addr → Prop} {A0 A1 : Nat → Prop} {H0 : Heap} {a : Array Value} {pc : Nat} {ls : Array Slot} {st0 rest : List Value}
theorem vx_keep {st₀ t T' : State} {L : List Loc} (h0 : st₀.heap = H) (e1 : T'.heap = t.heap) (hS : va_S A0 H0 H locs) (hA : ∀ q, q < H.size → A1 q → A0 q) (hf : ∀ q, free q → A0 q) (hL : ∀ q ∈ L, free q.base) (hF : va_F A1 st₀ t) :
    H.size ≤ T'.heap.size ∧ (∀ q : Nat, q < H.size → ¬ A1 q → T'.heap[q]? = H[q]?) ∧ va_S A0 H0 T'.heap (locs ++ L) := by
  obtain ⟨hz, hk⟩ := hF
  rw [h0] at hz hk
  exact ⟨by rw [e1]; exact hz, fun q h1 h2 => by rw [e1]; exact hk q h1 h2,
    ⟨Nat.le_trans hS.1 (by rw [e1]; exact hz), fun q h1 h2 => by rw [e1, hk q (Nat.lt_of_lt_of_le h1 hS.1) (fun z => h2 (hA q (Nat.lt_of_lt_of_le h1 hS.1) z))]; exact hS.2.1 q h1 h2, fun q hq => by
      rcases List.mem_append.mp hq with h | h
      · exact hS.2.2 q h
      · exact hf _ (hL q h)⟩⟩
theorem vx_calli {S SX : Type} {post : Int32 → S → Prop} {px : SX → Prop} {B : S → State → Prop} {BX : String → SX → State → Prop} {AX : Nat → Prop} (hr : vx_Run p l e R s m args below meth c H locs cells slots mc ms (F0 m pc ls st0) rest (va_Qi post B A1 a) (vx_X px BX AX) free) (hS : va_S A0 H0 H locs) (hA : ∀ q, q < H.size → A1 q → A0 q) (hf : ∀ q, free q → A0 q) (hAX : ∀ q, q < H.size → AX q → A0 q)
    (kx : ∀ (E : String) (ce : Cell) (q9 : Addr) (u : SX) (t : State) (H1 : Heap) (locs1 : List Loc), t.heap = H1 → s.vm.Alike t.vm → px u → BX E u t → H.size ≤ H1.size → (∀ q : Nat, q < H.size → ¬ AX q → H1[q]? = H[q]?) → va_S A0 H0 H1 locs1 → H1[q9]? = some ce → ce.vm = .none → s.vm.findClass E = some ce.cls → vx_W p l e R s m args below meth c H1 locs1 (cells + mc) (slots + ms) Q (F0 m pc ls rest) q9)
    (kk : ∀ (r : Int32) (u : S) (t : State) (H1 : Heap) (locs1 : List Loc), t.heap = H1 → s.vm.Alike t.vm → post r u → B u t → H.size ≤ H1.size → (∀ q : Nat, q < H.size → ¬ A1 q → H1[q]? = H[q]?) → va_S A0 H0 H1 locs1 → W p l e R s m args below meth c H1 locs1 (cells + mc) (slots + ms) Q (F0 m (pc + 3) ls (.int r :: rest))) : W p l e R s m args below meth c H locs cells slots Q (F0 m pc ls st0) := by
  intro T hT X
  rcases hr T hT X with ⟨v, st₀, t, T', L, h0, X', hL, e1, e2, ⟨⟨r, u, hv, hp, hb⟩, hF⟩, st⟩ | ⟨q, st₀, t, T', L, E, ce, h0, X', hL, e1, e2, ⟨u, hp, hb, hF⟩, hce, hcv, hcl, st⟩
  · cases hv
    obtain ⟨k1, k2, k3⟩ := vx_keep h0 e1 hS hA hf hL hF
    obtain ⟨t2, a1, b1⟩ := kk r u t T'.heap (locs ++ L) e1.symm (by rw [← e2]; exact X'.warmed.alike) hp hb k1 k2 k3 T' rfl X'
    exact ⟨t2, st t2 a1, b1⟩
  · obtain ⟨k1, k2, k3⟩ := vx_keep h0 e1 hS hAX hf hL hF
    obtain ⟨t2, a1, b1⟩ := kx E ce q u t T'.heap (locs ++ L) e1.symm (by rw [← e2]; exact X'.warmed.alike) hp hb k1 k2 k3 (by rw [e1]; exact hce) hcv hcl T' rfl X'
    exact ⟨t2, st.trans a1, b1⟩
theorem vx_calll {S SX : Type} {post : Int64 → S → Prop} {px : SX → Prop} {B : S → State → Prop} {BX : String → SX → State → Prop} {AX : Nat → Prop} (hr : vx_Run p l e R s m args below meth c H locs cells slots mc ms (F0 m pc ls st0) rest (va_Ql post B A1 a) (vx_X px BX AX) free) (hS : va_S A0 H0 H locs) (hA : ∀ q, q < H.size → A1 q → A0 q) (hf : ∀ q, free q → A0 q) (hAX : ∀ q, q < H.size → AX q → A0 q)
    (kx : ∀ (E : String) (ce : Cell) (q9 : Addr) (u : SX) (t : State) (H1 : Heap) (locs1 : List Loc), t.heap = H1 → s.vm.Alike t.vm → px u → BX E u t → H.size ≤ H1.size → (∀ q : Nat, q < H.size → ¬ AX q → H1[q]? = H[q]?) → va_S A0 H0 H1 locs1 → H1[q9]? = some ce → ce.vm = .none → s.vm.findClass E = some ce.cls → vx_W p l e R s m args below meth c H1 locs1 (cells + mc) (slots + ms) Q (F0 m pc ls rest) q9)
    (kk : ∀ (r : Int64) (u : S) (t : State) (H1 : Heap) (locs1 : List Loc), t.heap = H1 → s.vm.Alike t.vm → post r u → B u t → H.size ≤ H1.size → (∀ q : Nat, q < H.size → ¬ A1 q → H1[q]? = H[q]?) → va_S A0 H0 H1 locs1 → W p l e R s m args below meth c H1 locs1 (cells + mc) (slots + ms) Q (F0 m (pc + 3) ls (.long r :: rest))) : W p l e R s m args below meth c H locs cells slots Q (F0 m pc ls st0) := by
  intro T hT X
  rcases hr T hT X with ⟨v, st₀, t, T', L, h0, X', hL, e1, e2, ⟨⟨r, u, hv, hp, hb⟩, hF⟩, st⟩ | ⟨q, st₀, t, T', L, E, ce, h0, X', hL, e1, e2, ⟨u, hp, hb, hF⟩, hce, hcv, hcl, st⟩
  · cases hv
    obtain ⟨k1, k2, k3⟩ := vx_keep h0 e1 hS hA hf hL hF
    obtain ⟨t2, a1, b1⟩ := kk r u t T'.heap (locs ++ L) e1.symm (by rw [← e2]; exact X'.warmed.alike) hp hb k1 k2 k3 T' rfl X'
    exact ⟨t2, st t2 a1, b1⟩
  · obtain ⟨k1, k2, k3⟩ := vx_keep h0 e1 hS hAX hf hL hF
    obtain ⟨t2, a1, b1⟩ := kx E ce q u t T'.heap (locs ++ L) e1.symm (by rw [← e2]; exact X'.warmed.alike) hp hb k1 k2 k3 (by rw [e1]; exact hce) hcv hcl T' rfl X'
    exact ⟨t2, st.trans a1, b1⟩
theorem vx_callf {S SX : Type} {post : UInt32 → S → Prop} {px : SX → Prop} {B : S → State → Prop} {BX : String → SX → State → Prop} {AX : Nat → Prop} (hr : vx_Run p l e R s m args below meth c H locs cells slots mc ms (F0 m pc ls st0) rest (va_Qf post B A1 a) (vx_X px BX AX) free) (hS : va_S A0 H0 H locs) (hA : ∀ q, q < H.size → A1 q → A0 q) (hf : ∀ q, free q → A0 q) (hAX : ∀ q, q < H.size → AX q → A0 q)
    (kx : ∀ (E : String) (ce : Cell) (q9 : Addr) (u : SX) (t : State) (H1 : Heap) (locs1 : List Loc), t.heap = H1 → s.vm.Alike t.vm → px u → BX E u t → H.size ≤ H1.size → (∀ q : Nat, q < H.size → ¬ AX q → H1[q]? = H[q]?) → va_S A0 H0 H1 locs1 → H1[q9]? = some ce → ce.vm = .none → s.vm.findClass E = some ce.cls → vx_W p l e R s m args below meth c H1 locs1 (cells + mc) (slots + ms) Q (F0 m pc ls rest) q9)
    (kk : ∀ (r : UInt32) (u : S) (t : State) (H1 : Heap) (locs1 : List Loc), t.heap = H1 → s.vm.Alike t.vm → post r u → B u t → H.size ≤ H1.size → (∀ q : Nat, q < H.size → ¬ A1 q → H1[q]? = H[q]?) → va_S A0 H0 H1 locs1 → W p l e R s m args below meth c H1 locs1 (cells + mc) (slots + ms) Q (F0 m (pc + 3) ls (.float r :: rest))) : W p l e R s m args below meth c H locs cells slots Q (F0 m pc ls st0) := by
  intro T hT X
  rcases hr T hT X with ⟨v, st₀, t, T', L, h0, X', hL, e1, e2, ⟨⟨r, u, hv, hp, hb⟩, hF⟩, st⟩ | ⟨q, st₀, t, T', L, E, ce, h0, X', hL, e1, e2, ⟨u, hp, hb, hF⟩, hce, hcv, hcl, st⟩
  · cases hv
    obtain ⟨k1, k2, k3⟩ := vx_keep h0 e1 hS hA hf hL hF
    obtain ⟨t2, a1, b1⟩ := kk r u t T'.heap (locs ++ L) e1.symm (by rw [← e2]; exact X'.warmed.alike) hp hb k1 k2 k3 T' rfl X'
    exact ⟨t2, st t2 a1, b1⟩
  · obtain ⟨k1, k2, k3⟩ := vx_keep h0 e1 hS hAX hf hL hF
    obtain ⟨t2, a1, b1⟩ := kx E ce q u t T'.heap (locs ++ L) e1.symm (by rw [← e2]; exact X'.warmed.alike) hp hb k1 k2 k3 (by rw [e1]; exact hce) hcv hcl T' rfl X'
    exact ⟨t2, st.trans a1, b1⟩
theorem vx_calld {S SX : Type} {post : UInt64 → S → Prop} {px : SX → Prop} {B : S → State → Prop} {BX : String → SX → State → Prop} {AX : Nat → Prop} (hr : vx_Run p l e R s m args below meth c H locs cells slots mc ms (F0 m pc ls st0) rest (va_Qd post B A1 a) (vx_X px BX AX) free) (hS : va_S A0 H0 H locs) (hA : ∀ q, q < H.size → A1 q → A0 q) (hf : ∀ q, free q → A0 q) (hAX : ∀ q, q < H.size → AX q → A0 q)
    (kx : ∀ (E : String) (ce : Cell) (q9 : Addr) (u : SX) (t : State) (H1 : Heap) (locs1 : List Loc), t.heap = H1 → s.vm.Alike t.vm → px u → BX E u t → H.size ≤ H1.size → (∀ q : Nat, q < H.size → ¬ AX q → H1[q]? = H[q]?) → va_S A0 H0 H1 locs1 → H1[q9]? = some ce → ce.vm = .none → s.vm.findClass E = some ce.cls → vx_W p l e R s m args below meth c H1 locs1 (cells + mc) (slots + ms) Q (F0 m pc ls rest) q9)
    (kk : ∀ (r : UInt64) (u : S) (t : State) (H1 : Heap) (locs1 : List Loc), t.heap = H1 → s.vm.Alike t.vm → post r u → B u t → H.size ≤ H1.size → (∀ q : Nat, q < H.size → ¬ A1 q → H1[q]? = H[q]?) → va_S A0 H0 H1 locs1 → W p l e R s m args below meth c H1 locs1 (cells + mc) (slots + ms) Q (F0 m (pc + 3) ls (.double r :: rest))) : W p l e R s m args below meth c H locs cells slots Q (F0 m pc ls st0) := by
  intro T hT X
  rcases hr T hT X with ⟨v, st₀, t, T', L, h0, X', hL, e1, e2, ⟨⟨r, u, hv, hp, hb⟩, hF⟩, st⟩ | ⟨q, st₀, t, T', L, E, ce, h0, X', hL, e1, e2, ⟨u, hp, hb, hF⟩, hce, hcv, hcl, st⟩
  · cases hv
    obtain ⟨k1, k2, k3⟩ := vx_keep h0 e1 hS hA hf hL hF
    obtain ⟨t2, a1, b1⟩ := kk r u t T'.heap (locs ++ L) e1.symm (by rw [← e2]; exact X'.warmed.alike) hp hb k1 k2 k3 T' rfl X'
    exact ⟨t2, st t2 a1, b1⟩
  · obtain ⟨k1, k2, k3⟩ := vx_keep h0 e1 hS hAX hf hL hF
    obtain ⟨t2, a1, b1⟩ := kx E ce q u t T'.heap (locs ++ L) e1.symm (by rw [← e2]; exact X'.warmed.alike) hp hb k1 k2 k3 (by rw [e1]; exact hce) hcv hcl T' rfl X'
    exact ⟨t2, st.trans a1, b1⟩
theorem vx_callv {S SX : Type} {post : S → Prop} {px : SX → Prop} {B : S → State → Prop} {BX : String → SX → State → Prop} {AX : Nat → Prop} (hr : vx_Run p l e R s m args below meth c H locs cells slots mc ms (F0 m pc ls st0) rest (va_Qv post B A1 a) (vx_X px BX AX) free) (hS : va_S A0 H0 H locs) (hA : ∀ q, q < H.size → A1 q → A0 q) (hf : ∀ q, free q → A0 q) (hAX : ∀ q, q < H.size → AX q → A0 q)
    (kx : ∀ (E : String) (ce : Cell) (q9 : Addr) (u : SX) (t : State) (H1 : Heap) (locs1 : List Loc), t.heap = H1 → s.vm.Alike t.vm → px u → BX E u t → H.size ≤ H1.size → (∀ q : Nat, q < H.size → ¬ AX q → H1[q]? = H[q]?) → va_S A0 H0 H1 locs1 → H1[q9]? = some ce → ce.vm = .none → s.vm.findClass E = some ce.cls → vx_W p l e R s m args below meth c H1 locs1 (cells + mc) (slots + ms) Q (F0 m pc ls rest) q9)
    (kk : ∀ (u : S) (t : State) (H1 : Heap) (locs1 : List Loc), t.heap = H1 → s.vm.Alike t.vm → post u → B u t → H.size ≤ H1.size → (∀ q : Nat, q < H.size → ¬ A1 q → H1[q]? = H[q]?) → va_S A0 H0 H1 locs1 → W p l e R s m args below meth c H1 locs1 (cells + mc) (slots + ms) Q (F0 m (pc + 3) ls (rest))) : W p l e R s m args below meth c H locs cells slots Q (F0 m pc ls st0) := by
  intro T hT X
  rcases hr T hT X with ⟨v, st₀, t, T', L, h0, X', hL, e1, e2, ⟨⟨u, hv, hp, hb⟩, hF⟩, st⟩ | ⟨q, st₀, t, T', L, E, ce, h0, X', hL, e1, e2, ⟨u, hp, hb, hF⟩, hce, hcv, hcl, st⟩
  · cases hv
    obtain ⟨k1, k2, k3⟩ := vx_keep h0 e1 hS hA hf hL hF
    obtain ⟨t2, a1, b1⟩ := kk u t T'.heap (locs ++ L) e1.symm (by rw [← e2]; exact X'.warmed.alike) hp hb k1 k2 k3 T' rfl X'
    exact ⟨t2, st t2 a1, b1⟩
  · obtain ⟨k1, k2, k3⟩ := vx_keep h0 e1 hS hAX hf hL hF
    obtain ⟨t2, a1, b1⟩ := kx E ce q u t T'.heap (locs ++ L) e1.symm (by rw [← e2]; exact X'.warmed.alike) hp hb k1 k2 k3 (by rw [e1]; exact hce) hcv hcl T' rfl X'
    exact ⟨t2, st.trans a1, b1⟩
end Rows
section Ends
variable {p : Program} {l : Launch} {e : Env} {R : Room} {s : State} {m : MethodId} {args : Array Value} {below : List Frame} {meth : Method} {c : Code} {H : Heap} {locs : List Loc} {cells slots : Nat} {Q : State → Prop}
variable {mc ms : Nat} {free : Addr → Prop} {A0 A1 : Nat → Prop} {H0 : Heap} {a : Array Value} {ls : Array Slot} {st0 rest : List Value}
variable {Qc : Array Value → State → Outcome → State → Prop} {XC : String → State → State → Prop}
/-- what a body that may throw owes at its end -/
def vx_MQ (below : List Frame) (Qc : Array Value → State → Outcome → State → Prop) (XC : String → State → State → Prop) (a : Array Value) (s : State) (mc ms : Nat) (free : Addr → Prop) : State → Prop := fun t =>
  ∃ o, t.status = .running ∧ Ended t below o ∧ vx_Q Qc XC mc ms free a s o t
theorem vx_ret {g : JFrame} {mc ms : Nat} (k : W p l e R s m args below meth c H locs cells slots (MQ below Qc args s mc ms free) g) : W p l e R s m args below meth c H locs cells slots (vx_MQ below Qc XC args s mc ms free) g := by
  intro T hT X
  obtain ⟨t, a1, o, b1, b2, b3, b4⟩ := k T hT X
  exact ⟨t, a1, o, b1, b2, Or.inl ⟨b3, b4⟩⟩
/-- not caught here: it goes on to the caller -/
theorem vx_widen {g : JFrame} {q : Addr} {k n : Nat} (h1 : cells ≤ k) (h2 : slots ≤ n) (kk : vx_W p l e R s m args below meth c H locs k n Q g q) : vx_W p l e R s m args below meth c H locs cells slots Q g q := fun T hT X => kk T hT (stand_widen X h1 h2)
theorem vx_out {pc : Nat} {E : String} {ce : Cell} {q : Addr} {mc ms : Nat} (hout : ∀ x ∈ c.exceptionTable.toList, covers x pc = false) (hlocks : meth.locks = false) (hcell : H[q]? = some ce) (hv : ce.vm = .none) (hcl : s.vm.findClass E = some ce.cls)
    (hx : ∀ t : State, t.heap = H → s.vm.Alike t.vm → XC E s t) (hf : ∀ z ∈ locs, free z.base) (hc : cells ≤ mc) (hs : slots ≤ ms) :
    vx_W p l e R s m args below meth c H locs cells slots (vx_MQ below Qc XC args s mc ms free) (F0 m pc ls rest) q := by
  intro T hT X
  obtain ⟨st1, hrun, hend, hW, hsm⟩ := X.leaveThrown q (g := F0 m pc ls rest) rfl rfl rfl hout hlocks
  have hcell9 : (T.setFrames (.throwing q :: below)).heap[q]? = some ce := by
    show T.heap[q]? = some ce
    rw [hT]; exact hcell
  exact ⟨_, st1, .threw q, hrun, hend, Or.inr ⟨q, rfl, E, ce, locs, hx _ hT hW.alike, hcell9, hv, hcl, hW, hsm.mono hc hs, hf⟩⟩
theorem vx_frame {U : State} {k n : Nat} (h : s.sameButNew ({ U with vm := s.vm } : State) locs k n) : s.heap.size ≤ U.heap.size ∧ ∀ q : Nat, q < s.heap.size → (∀ z ∈ locs, z.base ≠ q) → U.heap[q]? = s.heap[q]? := by
  obtain ⟨-, h2, -, -, -, h6⟩ := h
  refine ⟨h2, fun q hq hz => ?_⟩
  obtain ⟨c9, e1, e2, e3, e4⟩ := h6 q _ (Array.getElem?_eq_getElem hq)
  have hs : c9.slots = (s.heap[q]).slots := Array.ext_getElem? fun i => e4 i fun hm => hz _ hm rfl
  have h9 : c9 = s.heap[q] := by
    rw [hs] at e2
    exact e2
  have e5 : U.heap[q]? = some c9 := e1
  rw [e5, h9, Array.getElem?_eq_getElem hq]
/-- the words of a throw but the four that speak of the heap -/
def vx_no (w : Cond) : Bool := decide (w ≠ .isRef (.static Bundle.tN "UNASSIGNED_STACK" Bundle.steD)) && decide (w ≠ .isRef (.static Bundle.tN "SUPPRESSED_SENTINEL" Bundle.listD)) && decide (w ≠ .laysStatic Bundle.tN "UNASSIGNED_STACK" Bundle.steD) && decide (w ≠ .laysStatic Bundle.tN "SUPPRESSED_SENTINEL" Bundle.listD)
def vx_at0 (own : String) (ic : Nat) (X : String) (names : List String) : List Cond := (Bundle.ownAtoms0 own ic X names).filter vx_no
def vx_atS (own : String) (ic : Nat) (X : String) (names : List String) : List Cond := (Bundle.ownAtoms own ic X names).filter vx_no
/-- a word that the tables alone decide, or a good one -/
def vx_ot (w : Cond) : Bool := w.onTables || goodWord w
theorem vx_ot_at {args a' : Array Value} {s U : State} {w : Cond} (hW : s.WarmedH U.vm) (hvm : s.vm = U.vm) (hg : vx_ot w = true) (h : w.before args s = true) : w.before a' U = true := by
  simp only [vx_ot, Bool.or_eq_true] at hg
  rcases hg with hg | hg
  · exact va_tabs hg hvm h
  · exact word_at hW (good_of_word hg) h
/-- a list's words: the good ones out of the method's own list, the others by premises of their own -/
theorem vx_hat {args : Array Value} {s : State} {L B : List Cond} (h1 : ∀ w ∈ L.filter goodWord, w.before args s = true) (h2 : ∀ w ∈ L.filter (fun w => !goodWord w), w ∈ B) (h3 : ∀ w ∈ B, w.before args s = true) : ∀ w ∈ L, w.before args s = true := by
  intro w hw
  by_cases g : goodWord w = true
  · exact h1 w (List.mem_filter.mpr ⟨hw, g⟩)
  · refine h3 w (h2 w (List.mem_filter.mpr ⟨hw, ?_⟩))
    show (!goodWord w) = true
    cases hgw : goodWord w
    · rfl
    · exact absurd hgw g
theorem vx_c {args : Array Value} {s : State} {w : Cond} {B : List Cond} (h : w.before args s = true) (t : ∀ w ∈ B, w.before args s = true) : ∀ w' ∈ w :: B, w'.before args s = true := fun w' h' => (List.mem_cons.mp h').elim (fun e => by rw [e]; exact h) (t w')
theorem vx_n {args : Array Value} {s : State} : ∀ w ∈ ([] : List Cond), w.before args s = true := fun _ h => nomatch h
theorem vx_own {args : Array Value} {s : State} {L : List Cond} (h1 : ∀ w ∈ L.filter vx_no, w.before args s = true)
    (hU : (Cond.isRef (.static Bundle.tN "UNASSIGNED_STACK" Bundle.steD)).before args s = true) (hN : (Cond.isRef (.static Bundle.tN "SUPPRESSED_SENTINEL" Bundle.listD)).before args s = true)
    (lU : (Cond.laysStatic Bundle.tN "UNASSIGNED_STACK" Bundle.steD).before args s = true) (lN : (Cond.laysStatic Bundle.tN "SUPPRESSED_SENTINEL" Bundle.listD).before args s = true) : ∀ w ∈ L, w.before args s = true := by
  intro w hw
  by_cases e1 : w = .isRef (.static Bundle.tN "UNASSIGNED_STACK" Bundle.steD)
  · rw [e1]; exact hU
  · by_cases e2 : w = .isRef (.static Bundle.tN "SUPPRESSED_SENTINEL" Bundle.listD)
    · rw [e2]; exact hN
    · by_cases e3 : w = .laysStatic Bundle.tN "UNASSIGNED_STACK" Bundle.steD
      · rw [e3]; exact lU
      · by_cases e4 : w = .laysStatic Bundle.tN "SUPPRESSED_SENTINEL" Bundle.listD
        · rw [e4]; exact lN
        · exact h1 w (List.mem_filter.mpr ⟨hw, by unfold vx_no; rw [decide_eq_true e1, decide_eq_true e2, decide_eq_true e3, decide_eq_true e4]; rfl⟩)
/-- where a static field lies, its class's statics cell in H -/
def vx_L (C n d : String) (A : Nat → Prop) (U : State) (H : Heap) : Prop := ∃ (c : ClassId) (k : Class) (i : Nat) (f : Field) (a : Nat) (cell : Cell), U.vm.findClass C = some c ∧ U.fieldFound? C n d = some (c, k, i, f) ∧ f.isStatic = true ∧ k.statics = some a ∧ H[a]? = some cell ∧ cell.vm.isStatics = true ∧ cell.cls = c ∧ f.slot < cell.slots.size ∧ k.staticTypes[f.slot]? = some f.type ∧ ¬ A a
theorem vx_L.moved {C n d : String} {A : Nat → Prop} {u U : State} {H : Heap} (hvm : u.vm.Alike U.vm) (h : vx_L C n d A u H) : vx_L C n d A U H := by
  obtain ⟨c, k, i, f, a, cell, h1, h2, h3, h4, h5, h6, h7, h8, h9, h10⟩ := h
  obtain ⟨k', hi', he⟩ := State.fieldFound?_setVm hvm h2
  exact ⟨c, k', i, f, a, cell, by rw [hvm.findClass]; exact h1, hi', h3, by rw [he]; exact h4, h5, h6, h7, h8, by rw [he]; exact h9, h10⟩
theorem vx_L.kept {C n d : String} {A : Nat → Prop} {U : State} {H H1 : Heap} (h : vx_L C n d A U H) (hq : ∀ a : Nat, a < H.size → ¬ A a → H1[a]? = H[a]?) : vx_L C n d A U H1 := by
  obtain ⟨c, k, i, f, a, cell, h1, h2, h3, h4, h5, h6, h7, h8, h9, h10⟩ := h
  exact ⟨c, k, i, f, a, cell, h1, h2, h3, h4, by rw [hq a (Array.getElem?_eq_some_iff.mp h5).1 h10]; exact h5, h6, h7, h8, h9, h10⟩
theorem vx_L.narrow {C n d : String} {A B : Nat → Prop} {U : State} {H : Heap} (h : vx_L C n d A U H) (hAB : ∀ q, B q → A q) : vx_L C n d B U H := by
  obtain ⟨c, k, i, f, a, cell, h1, h2, h3, h4, h5, h6, h7, h8, h9, h10⟩ := h
  exact ⟨c, k, i, f, a, cell, h1, h2, h3, h4, h5, h6, h7, h8, h9, fun z => h10 (hAB _ z)⟩
theorem vx_L.word {C n d : String} {A : Nat → Prop} {s : State} {args : Array Value} (h : vx_L C n d A s s.heap) : (Cond.laysStatic C n d).before args s = true := by
  obtain ⟨c, k, i, f, a, cell, h1, h2, h3, h4, h5, h6, h7, h8, h9, -⟩ := h
  show (Cond.laysStatic C n d).holds args s none s [] = true
  exact Cond.laysStatic_of h1 h2 h3 h4 h5 h6 h7 h8 h9
/-- .. and what it holds: null or some reference -/
def vx_Zq (C n d : String) (A : Nat → Prop) (U : State) (H : Heap) : Prop := va_Zq C n d A U H ∧ vx_L C n d A U H
theorem vx_Zq.moved {C n d : String} {A : Nat → Prop} {u U : State} {H : Heap} (hvm : u.vm.Alike U.vm) (h : vx_Zq C n d A u H) : vx_Zq C n d A U H := ⟨va_Zq.moved hvm h.1, vx_L.moved hvm h.2⟩
theorem vx_Zq.kept {C n d : String} {A : Nat → Prop} {U : State} {H H1 : Heap} (h : vx_Zq C n d A U H) (hq : ∀ a : Nat, a < H.size → ¬ A a → H1[a]? = H[a]?) : vx_Zq C n d A U H1 := ⟨va_Zq.kept h.1 hq, vx_L.kept h.2 hq⟩
theorem vx_Zq.narrow {C n d : String} {A B : Nat → Prop} {U : State} {H : Heap} (h : vx_Zq C n d A U H) (hAB : ∀ q, B q → A q) : vx_Zq C n d B U H := ⟨va_Zq.narrow h.1 hAB, vx_L.narrow h.2 hAB⟩
theorem vx_Zqof {args : Array Value} {s : State} {C n d : String} {A : Nat → Prop} (hl : (Cond.laysStatic C n d).before args s = true) (hini : (Cond.initialized C).before args s = true) (h : (Cond.isRef (.static C n d)).before args s = true) (hA : ∀ a : Nat, a < s.heap.size → ¬ A a) : vx_Zq C n d A s s.heap := by
  refine ⟨va_Zqof hl hini h hA, ?_⟩
  obtain ⟨c, k, i, f, a, cell, h1, h2, h3, h4, h5, h6, h7, h8, h9⟩ := Cond.laysStatic_spec hl
  exact ⟨c, k, i, f, a, cell, h1, h2, h3, h4, h5, h6, h7, h8, h9, hA a (Array.getElem?_eq_some_iff.mp h5).1⟩
theorem vx_isRef {C n d : String} {v : Value} {A : Nat → Prop} {s : State} {args : Array Value} (h : va_Z C n d v A s s.heap) (hv : v.isRef = true) : (Cond.isRef (.static C n d)).before args s = true := by
  obtain ⟨cf, kf, fi, f, a, cell, h1, h2, h3, h4, h5, h6, h7, -⟩ := h
  have he : (Term.static C n d).eval args s none [] s = some v := by
    simp [Term.eval, State.fieldNamed?, h1, h2, h4, h5, h6, h7]
  simp only [Cond.before, Cond.holds, Cond.value, he]
  cases v <;> simp_all [Value.isRef]
theorem vx_isRefq {C n d : String} {A : Nat → Prop} {s : State} {args : Array Value} (h : va_Zq C n d A s s.heap) : (Cond.isRef (.static C n d)).before args s = true := by
  rcases h with h | ⟨t, h⟩
  · exact vx_isRef h rfl
  · exact vx_isRef h rfl
/-- the same frame, seen from here: as if the method were called anew in this heap -/
theorem vx_rebase {T : State} (X : Stand p l e R s m args below meth c T locs cells slots) {R' : Room} (hf : R'.frames ≤ R.frames) (hl : R'.locals ≤ R.locals) (hc : cells + R'.cells ≤ R.cells) (hs : slots + R'.slots ≤ R.slots) :
    Stand p l e R' ((T.setVm s.vm).setFrames (.invoking m args :: below)) m args below meth c T [] 0 0 := by
  have htop : (T.setVm s.vm).topJava?.isSome := X.here.top
  have hF : ((T.setVm s.vm).setFrames (.invoking m args :: below)).frames = .invoking m args :: below := State.frames_setFrames _ (State.cur_lt_of_top htop)
  obtain ⟨g₀, hg0⟩ := Option.isSome_iff_exists.mp htop
  obtain ⟨r, hr⟩ := State.topJava?_eq_some.mp hg0
  have hl9 : e.platform.stackLimits (T.setVm s.vm).me = e.platform.stackLimits s.me := X.limits
  have hb9 : (T.setVm s.vm).me.stackBytes = s.me.stackBytes := X.bytes
  refine ⟨X.admits, X.cas, X.clock, hF, ?_, X.hears, X.method, X.code, X.here, X.tail, X.warmed, ?_, ?_, ?_⟩
  · have h := X.room
    have hU : ((T.setVm s.vm).setFrames (.invoking m args :: below)).localsInUse = s.localsInUse := by
      rw [State.localsInUse_invoking hF (meth := meth) (c := c) X.method X.code, State.localsInUse_invoking X.frames X.method X.code]
    simp only [State.hasRoom, Bool.and_eq_true, decide_eq_true_eq] at h ⊢
    obtain ⟨⟨⟨⟨h1, h2, h3, h4, h5, h6⟩, h7⟩, h8⟩, h9⟩ := h
    rw [X.frames, List.length_cons] at h2 h3
    have q1 := X.heapSize
    have q2 := X.used
    simp only [hF, hU, List.length_cons, State.stackLimits_setFrames, State.stackBytes_setFrames, hl9, hb9]
    refine ⟨⟨⟨⟨by omega, by omega, by omega, by omega, by omega, h6⟩, ?_⟩, ?_⟩, X.book⟩
    · show T.heap.size + R'.cells ≤ e.platform.maxCells
      omega
    · show T.slotsUsed + R'.slots ≤ e.platform.maxSlots
      omega
  · rw [State.stackLimits_setFrames]; rfl
  · rw [State.stackBytes_setFrames]; rfl
  · refine ⟨?_, Nat.le_refl _, Nat.le_refl _, ?_, ?_, fun a c9 h9 => ⟨c9, h9, rfl, rfl, fun _ _ => rfl⟩⟩
    · obtain ⟨t, ht, -⟩ := State.frames_cons hr
      show T.setVm s.vm = { ((T.setVm s.vm).setFrames (.invoking m args :: below)).setFrames (T.setVm s.vm).frames with heap := T.heap, slotsUsed := T.slotsUsed }
      rw [State.setFrames_setFrames, State.setFrames_self ht]
      rfl
    · show T.slotsUsed = T.slotsUsed + ((T.heap.toList.drop T.heap.size).map (·.slots.size)).sum
      rw [List.drop_eq_nil_of_le (Nat.le_of_eq Array.length_toList)]
      rfl
    · show ((T.heap.toList.drop T.heap.size).map (·.slots.size)).sum ≤ 0
      rw [List.drop_eq_nil_of_le (Nat.le_of_eq Array.length_toList)]
      exact Nat.le_refl _
/-- 'throw new E()': new; dup; invokespecial; athrow -/
theorem vx_throw0 {cc : ByteArray} {pc : Nat} (hexec : p.tables.exec = Jvm.exec) (hb : c.code = cc) (hl : l.stackTraces = false) {own cls : String} {names : List String} {ik ic mc ms : Nat} {A : Nat → Prop}
    (hown : s.vm.findClass own = some m.cls) (hcls : Bundle.fit cls = true) (hnames : ∀ n ∈ names, Bundle.fit n = true)
    (hk : (Cond.classLink own ik cls).before args s = true) (hini : (Cond.initialized cls).before args s = true) (hat : ∀ w ∈ vx_at0 own ic cls names, w.before args s = true)
    (hgood : ∀ w ∈ Cond.classLink own ik cls :: Cond.initialized cls :: vx_at0 own ic cls names, vx_ot w = true)
    (hU : vx_Zq Bundle.tN "UNASSIGNED_STACK" Bundle.steD A s s.heap) (hN : vx_Zq Bundle.tN "SUPPRESSED_SENTINEL" Bundle.listD A s s.heap) (hS : va_S A s.heap H locs) (hsize : ls.size = c.maxLocals)
    (d0 : decode cc pc = .ok (.new ik, 3)) (d3 : decode cc (pc + 3) = .ok (.dup, 1)) (d4 : decode cc (pc + 4) = .ok (.invokespecial ic, 3)) (d7 : decode cc (pc + 7) = .ok (.athrow, 1))
    (hout : ∀ x ∈ c.exceptionTable.toList, covers x (pc + 7) = false)
    (hRframes : names.length + 3 < R.frames) (hRlocals : (rest.map fun v => v.category).sum + (13 * (names.length + 1) + 42) ≤ R.locals) (hRcells : cells + 1 ≤ R.cells) (hRslots : slots + 6 ≤ R.slots) (hlocks : meth.locks = false)
    (hx : ∀ t : State, s.vm.Alike t.vm → H.size ≤ t.heap.size → (∀ q : Nat, q < H.size → t.heap[q]? = H[q]?) → XC cls s t)
    (hf : ∀ z ∈ locs, free z.base) (hc : cells + 1 ≤ mc) (hs : slots + 6 ≤ ms) :
    W p l e R s m args below meth c H locs cells slots (vx_MQ below Qc XC args s mc ms free) (F0 m pc ls rest) := by
  intro T hT X
  have htr : e.platform.stackTraces = false := (show e.platform.stackTraces = l.stackTraces by rw [X.admits.platform]).trans hl
  have Y := vx_rebase X (R' := { frames := R.frames, locals := R.locals, cells := 1, slots := 6 }) (Nat.le_refl _) (Nat.le_refl _) hRcells hRslots
  obtain ⟨s', hA⟩ : ∃ z, z = (T.setVm s.vm).setFrames (.invoking m args :: below) := ⟨_, rfl⟩
  rw [← hA] at Y
  have hvm : s'.vm = s.vm := by rw [hA]; rfl
  have hhp : s'.heap = H := by rw [hA]; exact hT
  have hW0 : s.WarmedH s'.vm := by rw [hvm]; exact State.WarmedH.refl s
  have hat' : ∀ w ∈ vx_at0 own ic cls names, w.before args s' = true := fun w hw => vx_ot_at hW0 hvm.symm (hgood w (List.mem_cons_of_mem _ (List.mem_cons_of_mem _ hw))) (hat w hw)
  have hk' : (Cond.classLink own ik cls).before args s' = true := vx_ot_at hW0 hvm.symm (hgood _ List.mem_cons_self) hk
  have hini' : (Cond.initialized cls).before args s' = true := vx_ot_at hW0 hvm.symm (hgood _ (List.mem_cons_of_mem _ List.mem_cons_self)) hini
  have hU' : vx_Zq Bundle.tN "UNASSIGNED_STACK" Bundle.steD A s' s'.heap := by rw [hhp]; exact vx_Zq.moved hW0.alike (hU.kept hS.2.1)
  have hN' : vx_Zq Bundle.tN "SUPPRESSED_SENTINEL" Bundle.listD A s' s'.heap := by rw [hhp]; exact vx_Zq.moved hW0.alike (hN.kept hS.2.1)
  have h : ∀ w ∈ Bundle.ownAtoms0 own ic cls names, w.before args s' = true := vx_own hat' (vx_isRefq hU'.1) (vx_isRefq hN'.1) hU'.2.word hN'.2.word
  have hown' : s'.vm.findClass own = some m.cls := by rw [hvm]; exact hown
  have hins : (Cond.instantiable cls 6).before args s' = true := h _ (by simp [Bundle.ownAtoms0])
  obtain ⟨vm₁, cX, kX, hfX, hkX, -, -, X₁, st1⟩ := Y.newCold hexec (own := own) (C := cls) (index := ik) (n := 6) hown' hk' hins hini'
    (g := F0 m pc ls rest) rfl (by rw [hb]; exact d0) (Nat.le_refl _) (Nat.le_refl _)
  generalize hT1 : (T.setVm vm₁).pushCell { cls := cX, slots := kX.instanceTypes.map defaultValue, vm := .none } = T1 at X₁ st1
  have hcat : (Value.ref T.heap.size).category = 1 := rfl
  have hcellA : T1.heap[T.heap.size]? = some (freshCell cX kX) := by rw [← hT1]; exact State.heap_pushCell_size _ _
  have d3' : decode c.code (pc + 3) = .ok (.dup, 1) := by rw [hb]; exact d3
  obtain ⟨U, hsteps, hrun, hend, hW, hsame, ce, hce, hO⟩ := X₁.ctorThrow0 hexec htr (own := own) (cls := cls) (names := names) (ic := ic) hown' hcls hnames h (fun x hx => nomatch hx) hfX hkX hcellA (by rw [hhp, hT]; exact Nat.le_refl _)
    (g := { method := m, pc := pc + 4, locals := ls, stack := .ref T.heap.size :: .ref T.heap.size :: rest, locked := none }) rfl hsize rfl rfl (rest := rest) rfl
    (by rw [hb]; exact d4) (by rw [hb]; exact d7) hout hRframes (by simp only [List.map_cons, List.sum_cons, hcat]; omega) hlocks
  obtain ⟨f1, f2⟩ := vx_frame hsame
  rw [hhp] at f1 f2
  have hWs : s.WarmedH U.vm := State.WarmedH.trans hW0 hW
  have hcl : s.vm.findClass cls = some ce.cls := by
    have h9 := hO.cls
    rw [hvm] at h9
    exact h9
  have hall : s.sameButNew ({ U with vm := s.vm } : State) locs mc ms := by
    subst hA
    obtain ⟨e1, e2⟩ := hsame
    rw [State.setFrames_setFrames] at e1
    have h2 : (T.setVm s.vm).sameButNew ({ U with vm := s.vm } : State) [] (0 + 1) (0 + 6) := ⟨e1, e2⟩
    have h3 := X.same.trans h2
    rw [List.append_nil] at h3
    exact h3.mono hc hs
  refine ⟨U, ?_, .threw T.heap.size, hrun, hend, Or.inr ⟨T.heap.size, rfl, cls, ce, locs, hx U hWs.alike f1 (fun q hq => f2 q hq (fun z hz => nomatch hz)), hce, hO.vm, hcl, hWs, hall, hf⟩⟩
  refine st1 _ ?_
  show Steps p.tables e below (T1.setTop { method := m, pc := pc + 3, locals := ls, stack := .ref T.heap.size :: rest, locked := none }) _
  jvm_step X₁.here [X₁.here.top, hexec, d3', Value.category]
  exact hsteps
/-- 'throw new E("text")': new; dup; ldc; invokespecial; athrow -/
theorem vx_throwS {cc : ByteArray} {pc : Nat} (hexec : p.tables.exec = Jvm.exec) (hb : c.code = cc) (hl : l.stackTraces = false) {own cls text : String} {names : List String} {ik is ic mc ms sa : Nat} {A : Nat → Prop}
    (hown : s.vm.findClass own = some m.cls) (hcls : Bundle.fit cls = true) (hnames : ∀ n ∈ names, Bundle.fit n = true)
    (hk : (Cond.classLink own ik cls).before args s = true) (hini : (Cond.initialized cls).before args s = true) (hstr : vk_R own is text sa s) (hat : ∀ w ∈ vx_atS own ic cls names, w.before args s = true)
    (hgood : ∀ w ∈ Cond.classLink own ik cls :: Cond.initialized cls :: vx_atS own ic cls names, vx_ot w = true)
    (hU : vx_Zq Bundle.tN "UNASSIGNED_STACK" Bundle.steD A s s.heap) (hN : vx_Zq Bundle.tN "SUPPRESSED_SENTINEL" Bundle.listD A s s.heap) (hS : va_S A s.heap H locs) (hsize : ls.size = c.maxLocals)
    (d0 : decode cc pc = .ok (.new ik, 3)) (d3 : decode cc (pc + 3) = .ok (.dup, 1)) (d4 : decode cc (pc + 4) = .ok (.ldc is, 2)) (d6 : decode cc (pc + 6) = .ok (.invokespecial ic, 3)) (d9 : decode cc (pc + 9) = .ok (.athrow, 1))
    (hout : ∀ x ∈ c.exceptionTable.toList, covers x (pc + 9) = false)
    (hRframes : names.length + 3 < R.frames) (hRlocals : (rest.map fun v => v.category).sum + (13 * (names.length + 1) + 43) ≤ R.locals) (hRcells : cells + 1 ≤ R.cells) (hRslots : slots + 6 ≤ R.slots) (hlocks : meth.locks = false)
    (hx : ∀ t : State, s.vm.Alike t.vm → H.size ≤ t.heap.size → (∀ q : Nat, q < H.size → t.heap[q]? = H[q]?) → XC cls s t)
    (hf : ∀ z ∈ locs, free z.base) (hc : cells + 1 ≤ mc) (hs : slots + 6 ≤ ms) :
    W p l e R s m args below meth c H locs cells slots (vx_MQ below Qc XC args s mc ms free) (F0 m pc ls rest) := by
  intro T hT X
  have htr : e.platform.stackTraces = false := (show e.platform.stackTraces = l.stackTraces by rw [X.admits.platform]).trans hl
  have Y := vx_rebase X (R' := { frames := R.frames, locals := R.locals, cells := 1, slots := 6 }) (Nat.le_refl _) (Nat.le_refl _) hRcells hRslots
  obtain ⟨s', hA⟩ : ∃ z, z = (T.setVm s.vm).setFrames (.invoking m args :: below) := ⟨_, rfl⟩
  rw [← hA] at Y
  have hvm : s'.vm = s.vm := by rw [hA]; rfl
  have hhp : s'.heap = H := by rw [hA]; exact hT
  have hW0 : s.WarmedH s'.vm := by rw [hvm]; exact State.WarmedH.refl s
  have hat' : ∀ w ∈ vx_atS own ic cls names, w.before args s' = true := fun w hw => vx_ot_at hW0 hvm.symm (hgood w (List.mem_cons_of_mem _ (List.mem_cons_of_mem _ hw))) (hat w hw)
  have hk' : (Cond.classLink own ik cls).before args s' = true := vx_ot_at hW0 hvm.symm (hgood _ List.mem_cons_self) hk
  have hini' : (Cond.initialized cls).before args s' = true := vx_ot_at hW0 hvm.symm (hgood _ (List.mem_cons_of_mem _ List.mem_cons_self)) hini
  have hU' : vx_Zq Bundle.tN "UNASSIGNED_STACK" Bundle.steD A s' s'.heap := by rw [hhp]; exact vx_Zq.moved hW0.alike (hU.kept hS.2.1)
  have hN' : vx_Zq Bundle.tN "SUPPRESSED_SENTINEL" Bundle.listD A s' s'.heap := by rw [hhp]; exact vx_Zq.moved hW0.alike (hN.kept hS.2.1)
  have h : ∀ w ∈ Bundle.ownAtoms own ic cls names, w.before args s' = true := vx_own hat' (vx_isRefq hU'.1) (vx_isRefq hN'.1) hU'.2.word hN'.2.word
  have hown' : s'.vm.findClass own = some m.cls := by rw [hvm]; exact hown
  have hins : (Cond.instantiable cls 6).before args s' = true := h _ (by simp [Bundle.ownAtoms])
  obtain ⟨vm₁, cX, kX, hfX, hkX, -, -, X₁, st1⟩ := Y.newCold hexec (own := own) (C := cls) (index := ik) (n := 6) hown' hk' hins hini'
    (g := F0 m pc ls rest) rfl (by rw [hb]; exact d0) (Nat.le_refl _) (Nat.le_refl _)
  generalize hT1 : (T.setVm vm₁).pushCell { cls := cX, slots := kX.instanceTypes.map defaultValue, vm := .none } = T1 at X₁ st1
  have hcat : (Value.ref T.heap.size).category = 1 := rfl
  have hcellA : T1.heap[T.heap.size]? = some (freshCell cX kX) := by rw [← hT1]; exact State.heap_pushCell_size _ _
  have d3' : decode c.code (pc + 3) = .ok (.dup, 1) := by rw [hb]; exact d3
  have d4' : decode c.code (pc + 4) = .ok (.ldc is, 2) := by rw [hb]; exact d4
  have hstr' : vk_R own is text sa s' := vk_R.warm hW0 hstr
  obtain ⟨U, hsteps, hrun, hend, hW, hsame, ce, hce, hO⟩ := X₁.ctorThrowS hexec htr (own := own) (cls := cls) (names := names) (ic := ic) hown' hcls hnames h (fun x hx => nomatch hx) hfX hkX hcellA (by rw [hhp, hT]; exact Nat.le_refl _) (msg := .ref sa) rfl
    (g := { method := m, pc := pc + 6, locals := ls, stack := .ref sa :: .ref T.heap.size :: .ref T.heap.size :: rest, locked := none }) rfl hsize rfl rfl (rest := rest) rfl
    (by rw [hb]; exact d6) (by rw [hb]; exact d9) hout hRframes (by simp only [List.map_cons, List.sum_cons, hcat]; omega) hlocks
  obtain ⟨f1, f2⟩ := vx_frame hsame
  rw [hhp] at f1 f2
  have hWs : s.WarmedH U.vm := State.WarmedH.trans hW0 hW
  have hcl : s.vm.findClass cls = some ce.cls := by
    have h9 := hO.cls
    rw [hvm] at h9
    exact h9
  have hall : s.sameButNew ({ U with vm := s.vm } : State) locs mc ms := by
    subst hA
    obtain ⟨e1, e2⟩ := hsame
    rw [State.setFrames_setFrames] at e1
    have h2 : (T.setVm s.vm).sameButNew ({ U with vm := s.vm } : State) [] (0 + 1) (0 + 6) := ⟨e1, e2⟩
    have h3 := X.same.trans h2
    rw [List.append_nil] at h3
    exact h3.mono hc hs
  refine ⟨U, ?_, .threw T.heap.size, hrun, hend, Or.inr ⟨T.heap.size, rfl, cls, ce, locs, hx U hWs.alike f1 (fun q hq => f2 q hq (fun z hz => nomatch hz)), hce, hO.vm, hcl, hWs, hall, hf⟩⟩
  refine st1 _ ?_
  show Steps p.tables e below (T1.setTop { method := m, pc := pc + 3, locals := ls, stack := .ref T.heap.size :: rest, locked := none }) _
  jvm_step X₁.here [X₁.here.top, hexec, d3', Value.category]
  exact X₁.ldcString hexec (own := own) (text := text) (index := is) (a := sa) hown' hstr'.1 hstr'.2
    (g := { method := m, pc := pc + 4, locals := ls, stack := .ref T.heap.size :: .ref T.heap.size :: rest, locked := none }) rfl d4' _ hsteps
/-- 'throw new E("text")', the text by a wide index -/
theorem vx_throwSW {cc : ByteArray} {pc : Nat} (hexec : p.tables.exec = Jvm.exec) (hb : c.code = cc) (hl : l.stackTraces = false) {own cls text : String} {names : List String} {ik is ic mc ms sa : Nat} {A : Nat → Prop}
    (hown : s.vm.findClass own = some m.cls) (hcls : Bundle.fit cls = true) (hnames : ∀ n ∈ names, Bundle.fit n = true)
    (hk : (Cond.classLink own ik cls).before args s = true) (hini : (Cond.initialized cls).before args s = true) (hstr : vk_R own is text sa s) (hat : ∀ w ∈ vx_atS own ic cls names, w.before args s = true)
    (hgood : ∀ w ∈ Cond.classLink own ik cls :: Cond.initialized cls :: vx_atS own ic cls names, vx_ot w = true)
    (hU : vx_Zq Bundle.tN "UNASSIGNED_STACK" Bundle.steD A s s.heap) (hN : vx_Zq Bundle.tN "SUPPRESSED_SENTINEL" Bundle.listD A s s.heap) (hS : va_S A s.heap H locs) (hsize : ls.size = c.maxLocals)
    (d0 : decode cc pc = .ok (.new ik, 3)) (d3 : decode cc (pc + 3) = .ok (.dup, 1)) (d4 : decode cc (pc + 4) = .ok (.ldc_w is, 3)) (d7 : decode cc (pc + 7) = .ok (.invokespecial ic, 3)) (d10 : decode cc (pc + 10) = .ok (.athrow, 1))
    (hout : ∀ x ∈ c.exceptionTable.toList, covers x (pc + 10) = false)
    (hRframes : names.length + 3 < R.frames) (hRlocals : (rest.map fun v => v.category).sum + (13 * (names.length + 1) + 43) ≤ R.locals) (hRcells : cells + 1 ≤ R.cells) (hRslots : slots + 6 ≤ R.slots) (hlocks : meth.locks = false)
    (hx : ∀ t : State, s.vm.Alike t.vm → H.size ≤ t.heap.size → (∀ q : Nat, q < H.size → t.heap[q]? = H[q]?) → XC cls s t)
    (hf : ∀ z ∈ locs, free z.base) (hc : cells + 1 ≤ mc) (hs : slots + 6 ≤ ms) :
    W p l e R s m args below meth c H locs cells slots (vx_MQ below Qc XC args s mc ms free) (F0 m pc ls rest) := by
  intro T hT X
  have htr : e.platform.stackTraces = false := (show e.platform.stackTraces = l.stackTraces by rw [X.admits.platform]).trans hl
  have Y := vx_rebase X (R' := { frames := R.frames, locals := R.locals, cells := 1, slots := 6 }) (Nat.le_refl _) (Nat.le_refl _) hRcells hRslots
  obtain ⟨s', hA⟩ : ∃ z, z = (T.setVm s.vm).setFrames (.invoking m args :: below) := ⟨_, rfl⟩
  rw [← hA] at Y
  have hvm : s'.vm = s.vm := by rw [hA]; rfl
  have hhp : s'.heap = H := by rw [hA]; exact hT
  have hW0 : s.WarmedH s'.vm := by rw [hvm]; exact State.WarmedH.refl s
  have hat' : ∀ w ∈ vx_atS own ic cls names, w.before args s' = true := fun w hw => vx_ot_at hW0 hvm.symm (hgood w (List.mem_cons_of_mem _ (List.mem_cons_of_mem _ hw))) (hat w hw)
  have hk' : (Cond.classLink own ik cls).before args s' = true := vx_ot_at hW0 hvm.symm (hgood _ List.mem_cons_self) hk
  have hini' : (Cond.initialized cls).before args s' = true := vx_ot_at hW0 hvm.symm (hgood _ (List.mem_cons_of_mem _ List.mem_cons_self)) hini
  have hU' : vx_Zq Bundle.tN "UNASSIGNED_STACK" Bundle.steD A s' s'.heap := by rw [hhp]; exact vx_Zq.moved hW0.alike (hU.kept hS.2.1)
  have hN' : vx_Zq Bundle.tN "SUPPRESSED_SENTINEL" Bundle.listD A s' s'.heap := by rw [hhp]; exact vx_Zq.moved hW0.alike (hN.kept hS.2.1)
  have h : ∀ w ∈ Bundle.ownAtoms own ic cls names, w.before args s' = true := vx_own hat' (vx_isRefq hU'.1) (vx_isRefq hN'.1) hU'.2.word hN'.2.word
  have hown' : s'.vm.findClass own = some m.cls := by rw [hvm]; exact hown
  have hins : (Cond.instantiable cls 6).before args s' = true := h _ (by simp [Bundle.ownAtoms])
  obtain ⟨vm₁, cX, kX, hfX, hkX, -, -, X₁, st1⟩ := Y.newCold hexec (own := own) (C := cls) (index := ik) (n := 6) hown' hk' hins hini'
    (g := F0 m pc ls rest) rfl (by rw [hb]; exact d0) (Nat.le_refl _) (Nat.le_refl _)
  generalize hT1 : (T.setVm vm₁).pushCell { cls := cX, slots := kX.instanceTypes.map defaultValue, vm := .none } = T1 at X₁ st1
  have hcat : (Value.ref T.heap.size).category = 1 := rfl
  have hcellA : T1.heap[T.heap.size]? = some (freshCell cX kX) := by rw [← hT1]; exact State.heap_pushCell_size _ _
  have d3' : decode c.code (pc + 3) = .ok (.dup, 1) := by rw [hb]; exact d3
  have d4' : decode c.code (pc + 4) = .ok (.ldc_w is, 3) := by rw [hb]; exact d4
  have hstr' : vk_R own is text sa s' := vk_R.warm hW0 hstr
  obtain ⟨U, hsteps, hrun, hend, hW, hsame, ce, hce, hO⟩ := X₁.ctorThrowS hexec htr (own := own) (cls := cls) (names := names) (ic := ic) hown' hcls hnames h (fun x hx => nomatch hx) hfX hkX hcellA (by rw [hhp, hT]; exact Nat.le_refl _) (msg := .ref sa) rfl
    (g := { method := m, pc := pc + 7, locals := ls, stack := .ref sa :: .ref T.heap.size :: .ref T.heap.size :: rest, locked := none }) rfl hsize rfl rfl (rest := rest) rfl
    (by rw [hb]; exact d7) (by rw [hb]; exact d10) hout hRframes (by simp only [List.map_cons, List.sum_cons, hcat]; omega) hlocks
  obtain ⟨f1, f2⟩ := vx_frame hsame
  rw [hhp] at f1 f2
  have hWs : s.WarmedH U.vm := State.WarmedH.trans hW0 hW
  have hcl : s.vm.findClass cls = some ce.cls := by
    have h9 := hO.cls
    rw [hvm] at h9
    exact h9
  have hall : s.sameButNew ({ U with vm := s.vm } : State) locs mc ms := by
    subst hA
    obtain ⟨e1, e2⟩ := hsame
    rw [State.setFrames_setFrames] at e1
    have h2 : (T.setVm s.vm).sameButNew ({ U with vm := s.vm } : State) [] (0 + 1) (0 + 6) := ⟨e1, e2⟩
    have h3 := X.same.trans h2
    rw [List.append_nil] at h3
    exact h3.mono hc hs
  refine ⟨U, ?_, .threw T.heap.size, hrun, hend, Or.inr ⟨T.heap.size, rfl, cls, ce, locs, hx U hWs.alike f1 (fun q hq => f2 q hq (fun z hz => nomatch hz)), hce, hO.vm, hcl, hWs, hall, hf⟩⟩
  refine st1 _ ?_
  show Steps p.tables e below (T1.setTop { method := m, pc := pc + 3, locals := ls, stack := .ref T.heap.size :: rest, locked := none }) _
  jvm_step X₁.here [X₁.here.top, hexec, d3', Value.category]
  exact X₁.ldcStringW hexec (own := own) (text := text) (index := is) (a := sa) hown' hstr'.1 hstr'.2
    (g := { method := m, pc := pc + 4, locals := ls, stack := .ref T.heap.size :: .ref T.heap.size :: rest, locked := none }) rfl d4' _ hsteps
end Ends
section Bodies
variable {l : Launch}
theorem vx_ofW {y : MethodName} {ws ws' : List Cond} {rm : Room} {Pc : Array Value → State → Prop} {Qc : Array Value → State → Outcome → State → Prop} {XC : String → State → State → Prop} {mc ms : Nat} {free : Addr → Prop} {cc : ByteArray} {maxL : Nat} {ret : Option FieldType}
    (hy : plainName y.cls = true) (hw : ws = Cond.code y cc maxL ret :: ws')
    (body : ∀ p e s m args below meth c s₁, BodyLoose p l y (headSpec ws rm) cc maxL ret e s m args below meth c s₁ → c.maxLocals = maxL → (∀ x ∈ c.exceptionTable.toList, False) → Pc args s →
      W p l e (headSpec ws rm).room s m args below meth c s.heap [] 0 0 (vx_MQ below Qc XC args s mc ms free) (entryFrame m args maxL)) : vx_Met l y ws rm Pc Qc XC mc ms free := by
  refine MetFree.of_bodyS (code := cc) (maxLocals := maxL) (ret := ret) hy ?_ ?_
  · intro args s m h hn
    obtain ⟨meth, c, h1, h2, h3, h4, h5, h6, -, -⟩ := Cond.code_spec hn (atoms_spec (ws := ws) h _ (by rw [hw]; exact List.mem_cons_self))
    exact ⟨meth, c, h1, h2, h3, h4, h5, h6⟩
  · intro p e s m args below meth c s₁ B hml hP _
    have hh0 : s₁.heap = s.heap := by rw [B.state]; rfl
    have ht : ∀ x ∈ c.exceptionTable.toList, False := by
      obtain ⟨meth9, c9, h1, h2, -, -, -, -, h7, -⟩ := Cond.code_spec B.named (atoms_spec (ws := ws) B.pre _ (by rw [hw]; exact List.mem_cons_self))
      cases Option.some.inj (h1.symm.trans B.method)
      cases Option.some.inj (h2.symm.trans (Stand.of_body B).code)
      intro x hx
      rw [Array.isEmpty_iff.mp h7] at hx
      cases hx
    obtain ⟨t, a1, o, b1, b2, b3⟩ := body p e s m args below meth c s₁ B hml ht hP s₁ hh0 (Stand.of_body B)
    exact ⟨t, o, a1, b1, b2, b3⟩
/-- the table of a body with handlers -/
theorem vx_table {p : Program} {x y : MethodName} {S : Spec} {cc bytes : ByteArray} {maxL maxL' : Nat} {ret ret' : Option FieldType} {e : Env} {s s₁ : State} {m : MethodId} {args : Array Value} {below : List Frame} {meth : Method} {c : Code} {hh : List (Nat × Nat × Nat × Nat)}
    (B : BodyLoose p l y S cc maxL ret e s m args below meth c s₁) (h : (Cond.codeWith y bytes maxL' ret' hh).before args s = true) : c.exceptionTable.toList = tableOf hh := by
  obtain ⟨m9, meth9, c9, hn9, h1, h2, -, -, h6, -⟩ := Cond.codeWith_spec h
  cases Option.some.inj (hn9.symm.trans B.named)
  cases Option.some.inj (h1.symm.trans B.method)
  cases Option.some.inj (h2.symm.trans (Stand.of_body B).code)
  rw [← h6, table_eq]
end Bodies
end VXA
/-! ===== END ===== -/
/-! ===== BEGIN a static call of a method with an exception table ===== -/
section VXS
variable {p : Program} {l : Launch} {e : Env} {R : Room} {s : State} {m : MethodId} {args : Array Value} {below : List Frame} {meth : Method} {c : Code} {T : State} {H : Heap} {locs : List Loc} {cells slots : Nat}
abbrev vx_CSW (R : Room) (s : State) (args : Array Value) (own : String) (index : Nat) (y : MethodName) (bytes : ByteArray) (maxL : Nat) (ret : Option FieldType) (hh : List (Nat × Nat × Nat × Nat)) (ws : List Cond) (rm : Room) (mc ms n : Nat) : Prop :=
  (rm.cells = mc ∧ rm.slots = ms ∧ rm.frames + 1 ≤ R.frames ∧ 8 + (maxL + 11) + rm.locals ≤ R.locals ∧ (∀ w ∈ ws, ∀ (a' : Array Value) (U : State), s.WarmedH U.vm → w.before a' U = true) ∧ Cond.codeWith y bytes maxL ret hh ∈ ws) ∧
  (Cond.codeWith y bytes maxL ret hh).before args s = true ∧ (Cond.initialized y.cls).before args s = true ∧ (y.cls ≠ "java/lang/invoke/MethodHandle" ∧ y.cls ≠ "java/lang/invoke/VarHandle") ∧
  (∀ sig, parseMethodDescriptor y.desc = some sig → n = sig.parameters.length) ∧ (Cond.methodLink own index y).before args s = true ∧ (Cond.static y).before args s = true
theorem vx_cwSW {own : String} {index maxL mc ms : Nat} {y : MethodName} {bytes : ByteArray} {ret : Option FieldType} {hh : List (Nat × Nat × Nat × Nat)} {Ts ws ws' : List Cond} {rm : Room} (n : Nat) (ht : ∀ w ∈ Ts, w.before args s = true) (hT : GoodIn Ts (va_wsS own index y ws)) (hw : ws = Cond.codeWith y bytes maxL ret hh :: ws') (hrc : rm.cells = mc) (hrs : rm.slots = ms)
    (hd : y.cls ≠ "java/lang/invoke/MethodHandle" ∧ y.cls ≠ "java/lang/invoke/VarHandle" ∧ (parseMethodDescriptor y.desc).map (fun d => d.parameters.length) = some n) (hR : rm.frames + 1 ≤ R.frames ∧ 8 + (maxL + 11) + rm.locals ≤ R.locals) :
    vx_CSW R s args own index y bytes maxL ret hh ws rm mc ms n := by
  have ok : ∀ w ∈ va_wsS own index y ws, w.before args s = true := fun w h => ht w (hT w h).1
  have hG : GoodIn Ts ws := fun w h => hT w (by unfold va_wsS; exact List.mem_append_right _ h)
  have hc : Cond.codeWith y bytes maxL ret hh ∈ ws := by rw [hw]; exact List.mem_cons_self
  refine ⟨⟨hrc, hrs, hR.1, hR.2, pay_in ht hG, hc⟩, ht _ (hG _ hc).1, ok _ (by simp [va_wsS]), ⟨hd.1, hd.2.1⟩, fun sig h => ?_, ok _ (by simp [va_wsS]), ok _ (by simp [va_wsS])⟩
  have h2 := hd.2.2
  rw [h] at h2
  exact (Option.some.inj h2).symm
theorem vx_callSW (X : Stand p l e R s m args below meth c T locs cells slots) (hexec : p.tables.exec = Jvm.exec) {own : String} {index : Nat} {y : MethodName} {bytes : ByteArray} {maxL : Nat} {ret : Option FieldType} {hh : List (Nat × Nat × Nat × Nat)}
    (hown : s.vm.findClass own = some m.cls) (hlink : (Cond.methodLink own index y).before args s = true) (hstat : (Cond.static y).before args s = true) (hinit : (Cond.initialized y.cls).before args s = true)
    (hcode : (Cond.codeWith y bytes maxL ret hh).before args s = true) (hy : y.cls ≠ "java/lang/invoke/MethodHandle" ∧ y.cls ≠ "java/lang/invoke/VarHandle")
    {W9 : Nat} {Pre : Pt → Array Value → Prop} {Post : Pt → Array Value → Option Value → Pt → Prop} (hK : Back l R p e below s args y 3 W9 Pre Post)
    {g : JFrame} (hg : g.method = m) (hsize : g.locals.size = c.maxLocals) {argsL rest : List Value} (hlen : ∀ sig, parseMethodDescriptor y.desc = some sig → argsL.length = sig.parameters.length)
    (hstack : g.stack = argsL.reverse ++ rest) (hW : 2 * g.monitorRoom + (rest.map fun v => v.category).sum ≤ W9) (hdg : decode c.code g.pc = .ok (.invokestatic index, 3))
    (hpre : ∀ vm₁, s.WarmedH vm₁ → Pre ⟨T.setVm vm₁, locs, cells, slots⟩ argsL.toArray) :
    ∃ (v : Option Value) (vm₁ : Vm) (B : Pt), s.WarmedH vm₁ ∧ Stand p l e R s m args below meth c B.U B.locs B.cells B.slots ∧ Post ⟨T.setVm vm₁, locs, cells, slots⟩ argsL.toArray v B ∧
      ∀ target, Steps p.tables e below (B.U.setTop { g with pc := g.pc + 3, stack := v.toList ++ rest }) target → Steps p.tables e below (T.setTop g) target := by
  obtain ⟨mk, methM, cM, hnamed, hmethM, -, -, -, -, -, -, hsigM⟩ := Cond.codeWith_spec hcode
  have hstatic : methM.isStatic = true := Cond.static_spec hnamed hmethM hstat
  obtain ⟨kP, hkP, -⟩ := className_of_methodNamed hnamed
  have hinitP : kP.init = .initialized := Cond.initialized_spec (findClass_of_methodNamed hnamed) hkP hinit
  obtain ⟨vm₁, X₁, hstep₁⟩ := X.invokestatic hexec hown hlink hnamed hmethM hstatic hkP hinitP hy (g := g) hg (argsL := argsL) (rest := rest) (hlen _ hsigM) hstack hdg
  obtain ⟨v, B, X', hpost, hsteps⟩ := hK m meth c ⟨T.setVm vm₁, locs, cells, slots⟩ { g with stack := rest } (.invokestatic index) mk argsL.toArray X₁ hg hsize hdg hW (X₁.named hnamed) (hpre vm₁ X₁.warmed)
  exact ⟨v, vm₁, B, X₁.warmed, X', hpost, fun target h => hstep₁ _ fun acts => by rw [doInvoke_state]; exact hsteps.trans h⟩
theorem vx_runSW {y : MethodName} {bytes cc : ByteArray} {maxL nL mc ms n index : Nat} {ret : Option FieldType} {hh : List (Nat × Nat × Nat × Nat)} {ws : List Cond} {rm : Room} {Pc : Array Value → State → Prop} {Qc : Array Value → State → Outcome → State → Prop} {free : Addr → Prop} {Ts : List Cond} {own : String} {As rest : List Value} {g : JFrame}
    (S : CallFix p m c cc nL s args Ts own) (hM : Met l y ws rm Pc Qc mc ms free) (cw : vx_CSW R s args own index y bytes maxL ret hh ws rm mc ms n) (hp : PreS s H Pc As)
    (hg : g.method = m) (hn : As.length = n) (hsize : g.locals.size = nL) (hstack : g.stack = As.reverse ++ rest) (hW : 2 * g.monitorRoom + (rest.map fun v => v.category).sum ≤ 8) (hdg : decode cc g.pc = .ok (.invokestatic index, 3)) (hf : cells + mc ≤ R.cells ∧ slots + ms ≤ R.slots) :
    va_Run p l e R s m args below meth c H locs cells slots mc ms g rest (Qc As.toArray) (free) := by
  obtain ⟨⟨hrc, hrs, hfr, hlo, hws, hcw⟩, hcode, hini, hy, hlen, hl, hstt⟩ := cw
  have hK : Back l R p e below s args y 3 8 (PreOf R mc ms Pc) (PostOf Qc mc ms free) := va_backW (hh := hh) (bytes := bytes) (maxL := maxL) (ret := ret) hM hp.1 hrc hrs hfr hlo hws hcw (fun a' U hW => word_at hW (Or.inl (by first | rfl | simp [Cond.onTables, Cond.keeps, Cond.steady])) hini)
  obtain ⟨hx, hb, hml, ho, -⟩ := S
  intro T hT X
  obtain ⟨v, vm₁, ⟨U', l2, c2, s2⟩, hW₁, X', ⟨g', mk, t, L, e1, e2, hq, h1, hL, h2, h3⟩, st⟩ := vx_callSW X hx (hh := hh) (bytes := bytes) (maxL := maxL) (ret := ret) ho hl hstt hini hcode hy hK hg (hsize.trans hml.symm) (argsL := As) (rest := rest) (fun sig h => hn.trans (hlen sig h)) hstack hW (by rw [hb]; exact hdg)
    (fun vm₁ hW₁ => ⟨hf.1, hf.2, hp.2 (T.setVm vm₁) hT hW₁⟩)
  dsimp only [Pt.U, Pt.locs, Pt.cells, Pt.slots] at X' e1 e2 h1 h2 h3 st
  subst h1; subst h2; subst h3
  exact ⟨v, (T.setVm vm₁).calling g' mk As.toArray, t, U', L, hT, X', hL, e1, e2, hq, st⟩
theorem vx_lt {D : va_G} {cl : List vw_C} {ws : va_W} {H1 : Heap} (h : va_P D cl ws H1) {k : Nat} {q : Nat × va_E} (hk : ws[k]? = some q) : q.1 < H1.size := (h k q hk).lt
end VXS
/-! ===== END ===== -/
/-! ===== BEGIN methods with a table of their own: called by a name, returning or throwing ===== -/
section VXH
/-! vx_backW, vx_callVX, vx_callSX, vx_callVW, vx_runVW, vx_runVX, vx_runSX, vx_ofWH follow the same proofs as their sisters above (Free/Laws.lean, Shelf42/LK1.lean); vx_outP calls Shelf42/NT130.lean (outThrough). -/
section
variable {l : Launch} {R : Room} {p : Program} {e : Env} {below : List Frame} {s : State} {sargs : Array Value} {y : MethodName} {len W9 : Nat}
theorem vx_backW {ws : List Cond} {rm : Room} {Pc : Array Value → State → Prop} {Qc : Array Value → State → Outcome → State → Prop} {XC : String → State → State → Prop} {mc ms : Nat} {free : Addr → Prop} {bytes : ByteArray} {maxL : Nat} {ret : Option FieldType} {hh : List (Nat × Nat × Nat × Nat)}
    (hM : vx_Met l y ws rm Pc Qc XC mc ms free) (hblind : FrameBlind Pc) (hrc : rm.cells = mc) (hrs : rm.slots = ms)
    (hframes : rm.frames + 1 ≤ R.frames) (hlocals : W9 + (maxL + 11) + rm.locals ≤ R.locals)
    (hws : ∀ w ∈ ws, ∀ a' U, s.WarmedH U.vm → w.before a' U = true) (hcode : Cond.codeWith y bytes maxL ret hh ∈ ws) (hinit : ∀ a' U, s.WarmedH U.vm → (Cond.initialized y.cls).before a' U = true) :
    vx_Back l R p e below s sargs y len W9 (PreOf R mc ms Pc) (PostOf Qc mc ms free) (vx_Post XC mc ms free) := by
  intro m meth c A g ig mk a X hg hsize hdg hW hn hp
  have h1 : (headSpec ws rm).pre.before a A.U = true := atoms_intro fun w hw => hws w hw _ _ X.warmed
  have h2 : (Cond.codeWith y bytes maxL ret hh).before a A.U = true := hws _ hcode _ _ X.warmed
  have h3 : (Cond.initialized y.cls).before a A.U = true := hinit _ _ X.warmed
  have h4 : A.cells + (headSpec ws rm).room.cells ≤ R.cells := by rw [show (headSpec ws rm).room.cells = mc from hrc]; exact hp.1
  have h5 : A.slots + (headSpec ws rm).room.slots ≤ R.slots := by rw [show (headSpec ws rm).room.slots = ms from hrs]; exact hp.2.1
  have hPc : Pc a (A.U.calling g mk a) := hblind _ _ _ _ hp.2.2
  obtain ⟨U, Ls, c0, s0⟩ := A
  dsimp only [Pt.U, Pt.locs, Pt.cells, Pt.slots] at h1 h2 h3 h4 h5 X hn hPc ⊢
  obtain ⟨m9, methY, cY, hn9, hmY, hcY, -, hlY, -⟩ := Cond.codeWith_spec h2
  cases Option.some.inj (hn9.symm.trans hn)
  obtain ⟨kY, hkY, -⟩ := className_of_methodNamed hn
  have hinitY : kY.init = .initialized := Cond.initialized_spec (findClass_of_methodNamed hn) hkY h3
  have h : At U g.method c below := by rw [hg]; exact X.here
  have hlocals9 : W9 + (maxL + 11) + (headSpec ws rm).room.locals ≤ R.locals := hlocals
  have happ : (headSpec ws rm).appliesLoose y e.platform (U.calling g mk a) = true :=
    Spec.appliesLoose_calling (g := g) h hdg hn hkY hinitY
      (X.room_calling (g := g) (R' := (headSpec ws rm).room) hsize hmY hcY hframes (by rw [hlY]; omega) h4 h5) h1
  obtain ⟨mid, hmid⟩ := h.above
  have hfr : (U.setTop g).frames = (.java g :: mid) ++ below := by rw [State.frames_setTop' g h.top, hmid]; rfl
  obtain ⟨o, s₂, hsteps, -, hend, hq⟩ := Steps.callFree hM p X.admits X.cas X.clock (acts := []) hfr happ hPc trivial
  have hq' : vx_Q Qc XC mc ms free a (U.calling g mk a) o s₂ := hq
  rw [State.frames_setTop' g h.top] at hend
  obtain ⟨g₀, hg0⟩ := Option.isSome_iff_exists.mp h.top
  obtain ⟨r, hr⟩ := State.topJava?_eq_some.mp hg0
  have hr' : (({ U with heap := s₂.heap, slotsUsed := s₂.slotsUsed } : State).setVm s₂.vm).frames = .java g₀ :: r := hr
  rcases hq' with ⟨hqc, L, hfe, hL⟩ | ⟨q, rfl, E, ce, L, hx, hce, hcv, hcl, hW₂, hsm, hL⟩
  · obtain ⟨⟨v, rfl⟩, hW₂, e2, q2, q3, q4, q5, q6⟩ := id hfe
    have e3 : s₂ = ({ (U.calling g mk a).setFrames s₂.frames with heap := s₂.heap, slotsUsed := s₂.slotsUsed } : State).setVm s₂.vm := by
      have : s₂ = ({ s₂ with vm := (U.calling g mk a).vm } : State).setVm s₂.vm := rfl
      rw [e2] at this
      exact this
    obtain ⟨c₂, i₂, len₂, hc₂, hd₂, hf₂⟩ := hend
    have hW' : U.WarmedH s₂.vm := hW₂
    have hcc : c₂ = c := by
      have h1 : s₂.code? g.method = U.code? g.method := by
        rw [State.code?_eq, State.code?_eq, hW'.alike.method?]
      exact Option.some.inj (hc₂.symm.trans (h1.trans h.code))
    subst hcc
    have hlen : len₂ = len := by rw [hdg] at hd₂; cases hd₂; rfl
    subst hlen
    have hs₂ : s₂ = (({ U with heap := s₂.heap, slotsUsed := s₂.slotsUsed } : State).setVm s₂.vm).setTop { g with pc := g.pc + len₂, stack := v.toList ++ g.stack } := by
      refine e3.trans ?_
      rw [hf₂, State.calling_eq h.top, State.setFrames_setFrames, State.setTop_of_frames _ hr', hr]
      rfl
    have hsame : U.sameButNew ({ U with heap := s₂.heap, slotsUsed := s₂.slotsUsed } : State) L mc ms := by
      refine ⟨?_, q2, q3, q4, q5, q6⟩
      obtain ⟨t, ht, -⟩ := State.frames_cons hr
      show ({ U with heap := s₂.heap, slotsUsed := s₂.slotsUsed } : State) = { U.setFrames U.frames with heap := s₂.heap, slotsUsed := s₂.slotsUsed }
      rw [State.setFrames_self ht]
    subst hg
    refine Or.inl ⟨v, ⟨(({ U with heap := s₂.heap, slotsUsed := s₂.slotsUsed } : State).setVm s₂.vm), Ls ++ L, c0 + mc, s0 + ms⟩,
      ⟨X.admits, X.cas, X.clock, X.frames, X.room, X.hears, X.method, X.code, (X.here.setHeapUsed s₂.heap s₂.slotsUsed).setVm hW'.alike, X.tail, State.WarmedH.trans X.warmed hW', X.limits, X.bytes, X.same.trans (hsame.setVm s.vm)⟩,
      ⟨g, mk, s₂, L, rfl, rfl, hqc, rfl, hL, rfl, rfl⟩, ?_⟩
    show Steps p.tables e below _ ((({ U with heap := s₂.heap, slotsUsed := s₂.slotsUsed } : State).setVm s₂.vm).setTop { g with pc := g.pc + len₂, stack := v.toList ++ g.stack })
    rw [← hs₂]
    exact hsteps
  · obtain ⟨e2, q2, q3, q4, q5, q6⟩ := id hsm
    have e3 : s₂ = ({ (U.calling g mk a).setFrames s₂.frames with heap := s₂.heap, slotsUsed := s₂.slotsUsed } : State).setVm s₂.vm := by
      have : s₂ = ({ s₂ with vm := (U.calling g mk a).vm } : State).setVm s₂.vm := rfl
      rw [e2] at this
      exact this
    have hf₂ : s₂.frames = .throwing q :: .java g :: U.frames.tail := hend
    have hW' : U.WarmedH s₂.vm := hW₂
    have hs₂ : s₂ = ((({ U with heap := s₂.heap, slotsUsed := s₂.slotsUsed } : State).setVm s₂.vm).setTop g).pushFrame (.throwing q) := by
      refine e3.trans ?_
      rw [hf₂, State.calling_eq h.top, State.setFrames_setFrames, State.pushFrame, State.frames_setTop _ hr', State.setTop_of_frames _ hr', State.setFrames_setFrames, hr]
      rfl
    have hsame : U.sameButNew ({ U with heap := s₂.heap, slotsUsed := s₂.slotsUsed } : State) L mc ms := by
      refine ⟨?_, q2, q3, q4, q5, q6⟩
      obtain ⟨t, ht, -⟩ := State.frames_cons hr
      show ({ U with heap := s₂.heap, slotsUsed := s₂.slotsUsed } : State) = { U.setFrames U.frames with heap := s₂.heap, slotsUsed := s₂.slotsUsed }
      rw [State.setFrames_self ht]
    subst hg
    refine Or.inr ⟨q, ⟨(({ U with heap := s₂.heap, slotsUsed := s₂.slotsUsed } : State).setVm s₂.vm), Ls ++ L, c0 + mc, s0 + ms⟩,
      ⟨X.admits, X.cas, X.clock, X.frames, X.room, X.hears, X.method, X.code, (X.here.setHeapUsed s₂.heap s₂.slotsUsed).setVm hW'.alike, X.tail, State.WarmedH.trans X.warmed hW', X.limits, X.bytes, X.same.trans (hsame.setVm s.vm)⟩,
      ⟨g, mk, s₂, L, E, ce, rfl, rfl, hx, hce, hcv, hcl, rfl, hL, rfl, rfl⟩, ?_⟩
    show Steps p.tables e below _ (((({ U with heap := s₂.heap, slotsUsed := s₂.slotsUsed } : State).setVm s₂.vm).setTop g).pushFrame (.throwing q))
    rw [← hs₂]
    exact hsteps
end
variable {p : Program} {l : Launch} {e : Env} {R : Room} {s : State} {m : MethodId} {args : Array Value} {below : List Frame} {meth : Method} {c : Code} {T : State} {H : Heap} {locs : List Loc} {cells slots : Nat}
theorem vx_callVX (X : Stand p l e R s m args below meth c T locs cells slots) (hexec : p.tables.exec = Jvm.exec) {own C : String} {index : Nat} {y : MethodName} {bytes : ByteArray} {maxL : Nat} {ret : Option FieldType} {hh : List (Nat × Nat × Nat × Nat)}
    (hown : s.vm.findClass own = some m.cls) (hlink : (Cond.methodLink own index y).before args s = true) (hinst : (Cond.instanceMethod y).before args s = true) (hsel : (Cond.selects C y y).before args s = true)
    (hcode : (Cond.codeWith y bytes maxL ret hh).before args s = true) (hy : y.cls ≠ "java/lang/invoke/MethodHandle" ∧ y.cls ≠ "java/lang/invoke/VarHandle")
    {W9 : Nat} {Pre : Pt → Array Value → Prop} {Post : Pt → Array Value → Option Value → Pt → Prop} {PostX : Pt → Array Value → Addr → Pt → Prop} (hK : vx_Back l R p e below s args y 3 W9 Pre Post PostX)
    {b : Addr} {cellB : Cell} (hcell : T.heap[b]? = some cellB) (hobj : cellB.vm.isStatics = false) (hcls : s.vm.findClass C = some cellB.cls)
    {g : JFrame} (hg : g.method = m) (hsize : g.locals.size = c.maxLocals) {argsL rest : List Value} (hlen : ∀ sig, parseMethodDescriptor y.desc = some sig → argsL.length = sig.parameters.length)
    (hstack : g.stack = argsL.reverse ++ .ref b :: rest) (hW : 2 * g.monitorRoom + (rest.map fun v => v.category).sum ≤ W9) (hdg : decode c.code g.pc = .ok (.invokevirtual index, 3))
    (hpre : ∀ vm₁, s.WarmedH vm₁ → Pre ⟨T.setVm vm₁, locs, cells, slots⟩ (Value.ref b :: argsL).toArray) :
    (∃ (v : Option Value) (vm₁ : Vm) (B : Pt), s.WarmedH vm₁ ∧ Stand p l e R s m args below meth c B.U B.locs B.cells B.slots ∧ Post ⟨T.setVm vm₁, locs, cells, slots⟩ (Value.ref b :: argsL).toArray v B ∧
      ∀ target, Steps p.tables e below (B.U.setTop { g with pc := g.pc + 3, stack := v.toList ++ rest }) target → Steps p.tables e below (T.setTop g) target) ∨
    (∃ (q : Addr) (vm₁ : Vm) (B : Pt), s.WarmedH vm₁ ∧ Stand p l e R s m args below meth c B.U B.locs B.cells B.slots ∧ PostX ⟨T.setVm vm₁, locs, cells, slots⟩ (Value.ref b :: argsL).toArray q B ∧
      Steps p.tables e below (T.setTop g) ((B.U.setTop { g with stack := rest }).pushFrame (.throwing q))) := by
  obtain ⟨mk, methM, hnamed, hmethM, hstM, habM⟩ := Cond.instanceMethod_spec hinst
  obtain ⟨m8, methM', cM, hn8, hmethM', -, -, -, -, -, -, hsigM⟩ := Cond.codeWith_spec hcode
  cases Option.some.inj (hn8.symm.trans hnamed)
  cases hmethM.symm.trans hmethM'
  obtain ⟨c2, r2, m2, q1, q2, q3, q4, kP, hkP, hkPi⟩ := Cond.selects_spec hsel
  cases hcls.symm.trans q1
  cases (State.methodFound?_of_named hnamed hy).symm.trans q2
  cases hnamed.symm.trans q3
  have hselP : selectMethod e.platform s.vm cellB.cls mk = .method mk := by rw [Launch.admits_selectMethod X.admits]; exact q4
  obtain ⟨vm₁, X₁, hstep₁⟩ := X.invokevirtual hexec hown hlink hnamed hmethM hstM hkP hkPi hy (a := b) (cell := cellB) hcell
    (fun z h => by rw [h] at hobj; cases hobj) hselP hmethM habM hkP hkPi (g := g) hg (argsL := argsL) (rest := rest) (hlen _ hsigM) hstack hdg
  rcases hK m meth c ⟨T.setVm vm₁, locs, cells, slots⟩ { g with stack := rest } (.invokevirtual index) mk (Value.ref b :: argsL).toArray X₁ hg hsize hdg hW (X₁.named hnamed) (hpre vm₁ X₁.warmed) with ⟨v, B, X', hpost, hsteps⟩ | ⟨q, B, X', hpost, hsteps⟩
  · exact Or.inl ⟨v, vm₁, B, X₁.warmed, X', hpost, fun target h => hstep₁ _ fun acts => by rw [doInvoke_state]; exact hsteps.trans h⟩
  · exact Or.inr ⟨q, vm₁, B, X₁.warmed, X', hpost, hstep₁ _ fun acts => by rw [doInvoke_state]; exact hsteps⟩
theorem vx_callSX (X : Stand p l e R s m args below meth c T locs cells slots) (hexec : p.tables.exec = Jvm.exec) {own : String} {index : Nat} {y : MethodName} {bytes : ByteArray} {maxL : Nat} {ret : Option FieldType} {hh : List (Nat × Nat × Nat × Nat)}
    (hown : s.vm.findClass own = some m.cls) (hlink : (Cond.methodLink own index y).before args s = true) (hstat : (Cond.static y).before args s = true) (hinit : (Cond.initialized y.cls).before args s = true)
    (hcode : (Cond.codeWith y bytes maxL ret hh).before args s = true) (hy : y.cls ≠ "java/lang/invoke/MethodHandle" ∧ y.cls ≠ "java/lang/invoke/VarHandle")
    {W9 : Nat} {Pre : Pt → Array Value → Prop} {Post : Pt → Array Value → Option Value → Pt → Prop} {PostX : Pt → Array Value → Addr → Pt → Prop} (hK : vx_Back l R p e below s args y 3 W9 Pre Post PostX)
    {g : JFrame} (hg : g.method = m) (hsize : g.locals.size = c.maxLocals) {argsL rest : List Value} (hlen : ∀ sig, parseMethodDescriptor y.desc = some sig → argsL.length = sig.parameters.length)
    (hstack : g.stack = argsL.reverse ++ rest) (hW : 2 * g.monitorRoom + (rest.map fun v => v.category).sum ≤ W9) (hdg : decode c.code g.pc = .ok (.invokestatic index, 3))
    (hpre : ∀ vm₁, s.WarmedH vm₁ → Pre ⟨T.setVm vm₁, locs, cells, slots⟩ argsL.toArray) :
    (∃ (v : Option Value) (vm₁ : Vm) (B : Pt), s.WarmedH vm₁ ∧ Stand p l e R s m args below meth c B.U B.locs B.cells B.slots ∧ Post ⟨T.setVm vm₁, locs, cells, slots⟩ argsL.toArray v B ∧
      ∀ target, Steps p.tables e below (B.U.setTop { g with pc := g.pc + 3, stack := v.toList ++ rest }) target → Steps p.tables e below (T.setTop g) target) ∨
    (∃ (q : Addr) (vm₁ : Vm) (B : Pt), s.WarmedH vm₁ ∧ Stand p l e R s m args below meth c B.U B.locs B.cells B.slots ∧ PostX ⟨T.setVm vm₁, locs, cells, slots⟩ argsL.toArray q B ∧
      Steps p.tables e below (T.setTop g) ((B.U.setTop { g with stack := rest }).pushFrame (.throwing q))) := by
  obtain ⟨mk, methM, cM, hnamed, hmethM, -, -, -, -, -, -, hsigM⟩ := Cond.codeWith_spec hcode
  have hstatic : methM.isStatic = true := Cond.static_spec hnamed hmethM hstat
  obtain ⟨kP, hkP, -⟩ := className_of_methodNamed hnamed
  have hinitP : kP.init = .initialized := Cond.initialized_spec (findClass_of_methodNamed hnamed) hkP hinit
  obtain ⟨vm₁, X₁, hstep₁⟩ := X.invokestatic hexec hown hlink hnamed hmethM hstatic hkP hinitP hy (g := g) hg (argsL := argsL) (rest := rest) (hlen _ hsigM) hstack hdg
  rcases hK m meth c ⟨T.setVm vm₁, locs, cells, slots⟩ { g with stack := rest } (.invokestatic index) mk argsL.toArray X₁ hg hsize hdg hW (X₁.named hnamed) (hpre vm₁ X₁.warmed) with ⟨v, B, X', hpost, hsteps⟩ | ⟨q, B, X', hpost, hsteps⟩
  · exact Or.inl ⟨v, vm₁, B, X₁.warmed, X', hpost, fun target h => hstep₁ _ fun acts => by rw [doInvoke_state]; exact hsteps.trans h⟩
  · exact Or.inr ⟨q, vm₁, B, X₁.warmed, X', hpost, hstep₁ _ fun acts => by rw [doInvoke_state]; exact hsteps⟩
theorem vx_callVW (X : Stand p l e R s m args below meth c T locs cells slots) (hexec : p.tables.exec = Jvm.exec) {own C : String} {index : Nat} {y : MethodName} {bytes : ByteArray} {maxL : Nat} {ret : Option FieldType} {hh : List (Nat × Nat × Nat × Nat)}
    (hown : s.vm.findClass own = some m.cls) (hlink : (Cond.methodLink own index y).before args s = true) (hinst : (Cond.instanceMethod y).before args s = true) (hsel : (Cond.selects C y y).before args s = true)
    (hcode : (Cond.codeWith y bytes maxL ret hh).before args s = true) (hy : y.cls ≠ "java/lang/invoke/MethodHandle" ∧ y.cls ≠ "java/lang/invoke/VarHandle")
    {W9 : Nat} {Pre : Pt → Array Value → Prop} {Post : Pt → Array Value → Option Value → Pt → Prop} (hK : Back l R p e below s args y 3 W9 Pre Post)
    {b : Addr} {cellB : Cell} (hcell : T.heap[b]? = some cellB) (hobj : cellB.vm.isStatics = false) (hcls : s.vm.findClass C = some cellB.cls)
    {g : JFrame} (hg : g.method = m) (hsize : g.locals.size = c.maxLocals) {argsL rest : List Value} (hlen : ∀ sig, parseMethodDescriptor y.desc = some sig → argsL.length = sig.parameters.length)
    (hstack : g.stack = argsL.reverse ++ .ref b :: rest) (hW : 2 * g.monitorRoom + (rest.map fun v => v.category).sum ≤ W9) (hdg : decode c.code g.pc = .ok (.invokevirtual index, 3))
    (hpre : ∀ vm₁, s.WarmedH vm₁ → Pre ⟨T.setVm vm₁, locs, cells, slots⟩ (Value.ref b :: argsL).toArray) :
    ∃ (v : Option Value) (vm₁ : Vm) (B : Pt), s.WarmedH vm₁ ∧ Stand p l e R s m args below meth c B.U B.locs B.cells B.slots ∧ Post ⟨T.setVm vm₁, locs, cells, slots⟩ (Value.ref b :: argsL).toArray v B ∧
      ∀ target, Steps p.tables e below (B.U.setTop { g with pc := g.pc + 3, stack := v.toList ++ rest }) target → Steps p.tables e below (T.setTop g) target := by
  obtain ⟨mk, methM, hnamed, hmethM, hstM, habM⟩ := Cond.instanceMethod_spec hinst
  obtain ⟨m8, methM', cM, hn8, hmethM', -, -, -, -, -, -, hsigM⟩ := Cond.codeWith_spec hcode
  cases Option.some.inj (hn8.symm.trans hnamed)
  cases hmethM.symm.trans hmethM'
  obtain ⟨c2, r2, m2, q1, q2, q3, q4, kP, hkP, hkPi⟩ := Cond.selects_spec hsel
  cases hcls.symm.trans q1
  cases (State.methodFound?_of_named hnamed hy).symm.trans q2
  cases hnamed.symm.trans q3
  have hselP : selectMethod e.platform s.vm cellB.cls mk = .method mk := by rw [Launch.admits_selectMethod X.admits]; exact q4
  obtain ⟨vm₁, X₁, hstep₁⟩ := X.invokevirtual hexec hown hlink hnamed hmethM hstM hkP hkPi hy (a := b) (cell := cellB) hcell
    (fun z h => by rw [h] at hobj; cases hobj) hselP hmethM habM hkP hkPi (g := g) hg (argsL := argsL) (rest := rest) (hlen _ hsigM) hstack hdg
  obtain ⟨v, B, X', hpost, hsteps⟩ := hK m meth c ⟨T.setVm vm₁, locs, cells, slots⟩ { g with stack := rest } (.invokevirtual index) mk (Value.ref b :: argsL).toArray X₁ hg hsize hdg hW (X₁.named hnamed) (hpre vm₁ X₁.warmed)
  exact ⟨v, vm₁, B, X₁.warmed, X', hpost, fun target h => hstep₁ _ fun acts => by rw [doInvoke_state]; exact hsteps.trans h⟩
abbrev vx_CVW (R : Room) (s : State) (args : Array Value) (own C : String) (index : Nat) (y : MethodName) (bytes : ByteArray) (maxL : Nat) (ret : Option FieldType) (hh : List (Nat × Nat × Nat × Nat)) (ws : List Cond) (rm : Room) (mc ms n : Nat) : Prop :=
  (rm.cells = mc ∧ rm.slots = ms ∧ rm.frames + 1 ≤ R.frames ∧ 8 + (maxL + 11) + rm.locals ≤ R.locals ∧ (∀ w ∈ ws, ∀ (a' : Array Value) (U : State), s.WarmedH U.vm → w.before a' U = true) ∧ Cond.codeWith y bytes maxL ret hh ∈ ws) ∧
  (Cond.codeWith y bytes maxL ret hh).before args s = true ∧ (Cond.initialized y.cls).before args s = true ∧ (y.cls ≠ "java/lang/invoke/MethodHandle" ∧ y.cls ≠ "java/lang/invoke/VarHandle") ∧
  (∀ sig, parseMethodDescriptor y.desc = some sig → n = sig.parameters.length) ∧ (Cond.methodLink own index y).before args s = true ∧ (Cond.instanceMethod y).before args s = true ∧ (Cond.selects C y y).before args s = true
theorem vx_cwVW {own C : String} {index maxL mc ms : Nat} {y : MethodName} {bytes : ByteArray} {ret : Option FieldType} {hh : List (Nat × Nat × Nat × Nat)} {Ts ws ws' : List Cond} {rm : Room} (n : Nat) (ht : ∀ w ∈ Ts, w.before args s = true) (hT : GoodIn Ts (wsV own index C y ws)) (hw : ws = Cond.codeWith y bytes maxL ret hh :: ws') (hrc : rm.cells = mc) (hrs : rm.slots = ms)
    (hd : y.cls = C ∧ y.cls ≠ "java/lang/invoke/MethodHandle" ∧ y.cls ≠ "java/lang/invoke/VarHandle" ∧ (parseMethodDescriptor y.desc).map (fun d => d.parameters.length) = some n) (hR : rm.frames + 1 ≤ R.frames ∧ 8 + (maxL + 11) + rm.locals ≤ R.locals) :
    vx_CVW R s args own C index y bytes maxL ret hh ws rm mc ms n := by
  obtain ⟨hC, hd⟩ := hd
  subst hC
  have ok : ∀ w ∈ wsV own index y.cls y ws, w.before args s = true := fun w h => ht w (hT w h).1
  have hG : GoodIn Ts ws := fun w h => hT w (by unfold wsV; exact List.mem_append_right _ h)
  have hc : Cond.codeWith y bytes maxL ret hh ∈ ws := by rw [hw]; exact List.mem_cons_self
  refine ⟨⟨hrc, hrs, hR.1, hR.2, pay_in ht hG, hc⟩, ht _ (hG _ hc).1, ok _ (by simp [wsV]), ⟨hd.1, hd.2.1⟩, fun sig h => ?_, ok _ (by simp [wsV]), ok _ (by simp [wsV]), ok _ (by simp [wsV])⟩
  have h2 := hd.2.2
  rw [h] at h2
  exact (Option.some.inj h2).symm
theorem vx_runVW {y : MethodName} {bytes cc : ByteArray} {maxL nL mc ms n index : Nat} {ret : Option FieldType} {hh : List (Nat × Nat × Nat × Nat)} {ws : List Cond} {rm : Room} {Pc : Array Value → State → Prop} {Qc : Array Value → State → Outcome → State → Prop} {free : Addr → Prop} {Ts : List Cond} {own C : String} {b : Addr} {As rest : List Value} {g : JFrame}
    (S : CallFix p m c cc nL s args Ts own) (hM : Met l y ws rm Pc Qc mc ms free) (cw : vx_CVW R s args own C index y bytes maxL ret hh ws rm mc ms n) (hp : PreV s H C b Pc As)
    (hg : g.method = m) (hn : As.length = n) (hsize : g.locals.size = nL) (hstack : g.stack = As.reverse ++ .ref b :: rest) (hW : 2 * g.monitorRoom + (rest.map fun v => v.category).sum ≤ 8) (hdg : decode cc g.pc = .ok (.invokevirtual index, 3)) (hf : cells + mc ≤ R.cells ∧ slots + ms ≤ R.slots) :
    va_Run p l e R s m args below meth c H locs cells slots mc ms g rest (Qc (Value.ref b :: As).toArray) free := by
  obtain ⟨⟨hrc, hrs, hfr, hlo, hws, hcw⟩, hcode, hini, hy, hlen, hl, hin, hse⟩ := cw
  have hK : Back l R p e below s args y 3 8 (PreOf R mc ms Pc) (PostOf Qc mc ms free) := va_backW (hh := hh) (bytes := bytes) (maxL := maxL) (ret := ret) hM hp.1 hrc hrs hfr hlo hws hcw (fun a' U hW => word_at hW (Or.inl (by first | rfl | simp [Cond.onTables, Cond.keeps, Cond.steady])) hini)
  obtain ⟨hx, hb, hml, ho, -⟩ := S
  obtain ⟨-, ⟨cellB, hcB, hoB, hclB⟩, hPc⟩ := hp
  intro T hT X
  obtain ⟨v, vm₁, ⟨U', l2, c2, s2⟩, hW₁, X', ⟨g', mk, t, L, e1, e2, hq, h1, hL, h2, h3⟩, st⟩ := vx_callVW X hx (C := C) (hh := hh) (bytes := bytes) (maxL := maxL) (ret := ret) ho hl hin hse hcode hy hK (by rw [hT]; exact hcB) hoB hclB hg (hsize.trans hml.symm) (argsL := As) (rest := rest) (fun sig h => hn.trans (hlen sig h)) hstack hW (by rw [hb]; exact hdg)
    (fun vm₁ hW₁ => ⟨hf.1, hf.2, hPc (T.setVm vm₁) hT hW₁⟩)
  dsimp only [Pt.U, Pt.locs, Pt.cells, Pt.slots] at X' e1 e2 h1 h2 h3 st
  subst h1; subst h2; subst h3
  exact ⟨v, (T.setVm vm₁).calling g' mk (Value.ref b :: As).toArray, t, U', L, hT, X', hL, e1, e2, hq, st⟩
section
variable {y : MethodName} {bytes cc : ByteArray} {maxL nL mc ms n index : Nat} {ret : Option FieldType} {ws : List Cond} {rm : Room} {Pc : Array Value → State → Prop} {Qc : Array Value → State → Outcome → State → Prop} {XC : String → State → State → Prop} {free : Addr → Prop} {Ts : List Cond} {own C : String} {b : Addr} {As rest : List Value} {g : JFrame}
theorem vx_runVX {hh : List (Nat × Nat × Nat × Nat)} (S : CallFix p m c cc nL s args Ts own) (hM : vx_Met l y ws rm Pc Qc XC mc ms free) (cw : vx_CVW R s args own C index y bytes maxL ret hh ws rm mc ms n) (hp : PreV s H C b Pc As)
    (hg : g.method = m) (hn : As.length = n) (hsize : g.locals.size = nL) (hstack : g.stack = As.reverse ++ .ref b :: rest) (hW : 2 * g.monitorRoom + (rest.map fun v => v.category).sum ≤ 8) (hdg : decode cc g.pc = .ok (.invokevirtual index, 3)) (hf : cells + mc ≤ R.cells ∧ slots + ms ≤ R.slots) :
    vx_Run p l e R s m args below meth c H locs cells slots mc ms g rest (Qc (Value.ref b :: As).toArray) XC free := by
  obtain ⟨⟨hrc, hrs, hfr, hlo, hws, hcw⟩, hcode, hini, hy, hlen, hl, hin, hse⟩ := cw
  have hK : vx_Back l R p e below s args y 3 8 (PreOf R mc ms Pc) (PostOf Qc mc ms free) (vx_Post XC mc ms free) := vx_backW (hh := hh) (bytes := bytes) (maxL := maxL) (ret := ret) hM hp.1 hrc hrs hfr hlo hws hcw (fun a' U hW => word_at hW (Or.inl (by first | rfl | simp [Cond.onTables, Cond.keeps, Cond.steady])) hini)
  obtain ⟨hx, hb, hml, ho, -⟩ := S
  obtain ⟨-, ⟨cellB, hcB, hoB, hclB⟩, hPc⟩ := hp
  intro T hT X
  rcases vx_callVX X hx (C := C) (hh := hh) (bytes := bytes) (maxL := maxL) (ret := ret) ho hl hin hse hcode hy hK (by rw [hT]; exact hcB) hoB hclB hg (hsize.trans hml.symm) (argsL := As) (rest := rest) (fun sig h => hn.trans (hlen sig h)) hstack hW (by rw [hb]; exact hdg)
    (fun vm₁ hW₁ => ⟨hf.1, hf.2, hPc (T.setVm vm₁) hT hW₁⟩) with ⟨v, vm₁, ⟨U', l2, c2, s2⟩, hW₁, X', ⟨g', mk, t, L, e1, e2, hq, h1, hL, h2, h3⟩, st⟩ | ⟨q, vm₁, ⟨U', l2, c2, s2⟩, hW₁, X', ⟨g', mk, t, L, E, ce, e1, e2, hq, hce, hcv, hcl, h1, hL, h2, h3⟩, st⟩
  · dsimp only [Pt.U, Pt.locs, Pt.cells, Pt.slots] at X' e1 e2 h1 h2 h3 st
    subst h1; subst h2; subst h3
    exact Or.inl ⟨v, (T.setVm vm₁).calling g' mk (Value.ref b :: As).toArray, t, U', L, hT, X', hL, e1, e2, hq, st⟩
  · dsimp only [Pt.U, Pt.locs, Pt.cells, Pt.slots] at X' e1 e2 h1 h2 h3 st hcl
    subst h1; subst h2; subst h3
    exact Or.inr ⟨q, (T.setVm vm₁).calling g' mk (Value.ref b :: As).toArray, t, U', L, E, ce, hT, X', hL, e1, e2, hq, hce, hcv, vx_cls hW₁ hcl, st⟩
theorem vx_runSX {hh : List (Nat × Nat × Nat × Nat)} (S : CallFix p m c cc nL s args Ts own) (hM : vx_Met l y ws rm Pc Qc XC mc ms free) (cw : vx_CSW R s args own index y bytes maxL ret hh ws rm mc ms n) (hp : PreS s H Pc As)
    (hg : g.method = m) (hn : As.length = n) (hsize : g.locals.size = nL) (hstack : g.stack = As.reverse ++ rest) (hW : 2 * g.monitorRoom + (rest.map fun v => v.category).sum ≤ 8) (hdg : decode cc g.pc = .ok (.invokestatic index, 3)) (hf : cells + mc ≤ R.cells ∧ slots + ms ≤ R.slots) :
    vx_Run p l e R s m args below meth c H locs cells slots mc ms g rest (Qc As.toArray) XC free := by
  obtain ⟨⟨hrc, hrs, hfr, hlo, hws, hcw⟩, hcode, hini, hy, hlen, hl, hstt⟩ := cw
  have hK : vx_Back l R p e below s args y 3 8 (PreOf R mc ms Pc) (PostOf Qc mc ms free) (vx_Post XC mc ms free) := vx_backW (hh := hh) (bytes := bytes) (maxL := maxL) (ret := ret) hM hp.1 hrc hrs hfr hlo hws hcw (fun a' U hW => word_at hW (Or.inl (by first | rfl | simp [Cond.onTables, Cond.keeps, Cond.steady])) hini)
  obtain ⟨hx, hb, hml, ho, -⟩ := S
  intro T hT X
  rcases vx_callSX X hx (hh := hh) (bytes := bytes) (maxL := maxL) (ret := ret) ho hl hstt hini hcode hy hK hg (hsize.trans hml.symm) (argsL := As) (rest := rest) (fun sig h => hn.trans (hlen sig h)) hstack hW (by rw [hb]; exact hdg)
    (fun vm₁ hW₁ => ⟨hf.1, hf.2, hp.2 (T.setVm vm₁) hT hW₁⟩) with ⟨v, vm₁, ⟨U', l2, c2, s2⟩, hW₁, X', ⟨g', mk, t, L, e1, e2, hq, h1, hL, h2, h3⟩, st⟩ | ⟨q, vm₁, ⟨U', l2, c2, s2⟩, hW₁, X', ⟨g', mk, t, L, E, ce, e1, e2, hq, hce, hcv, hcl, h1, hL, h2, h3⟩, st⟩
  · dsimp only [Pt.U, Pt.locs, Pt.cells, Pt.slots] at X' e1 e2 h1 h2 h3 st
    subst h1; subst h2; subst h3
    exact Or.inl ⟨v, (T.setVm vm₁).calling g' mk As.toArray, t, U', L, hT, X', hL, e1, e2, hq, st⟩
  · dsimp only [Pt.U, Pt.locs, Pt.cells, Pt.slots] at X' e1 e2 h1 h2 h3 st hcl
    subst h1; subst h2; subst h3
    exact Or.inr ⟨q, (T.setVm vm₁).calling g' mk As.toArray, t, U', L, E, ce, hT, X', hL, e1, e2, hq, hce, hcv, vx_cls hW₁ hcl, st⟩
end
end VXH
theorem vx_ofWH {l : Launch} {y : MethodName} {ws ws' : List Cond} {rm : Room} {Pc : Array Value → State → Prop} {Qc : Array Value → State → Outcome → State → Prop} {XC : String → State → State → Prop} {mc ms : Nat} {free : Addr → Prop} {cc : ByteArray} {maxL : Nat} {ret : Option FieldType} {hh : List (Nat × Nat × Nat × Nat)}
    (hy : plainName y.cls = true) (hw : ws = Cond.codeWith y cc maxL ret hh :: ws')
    (body : ∀ p e s m args below meth c s₁, BodyLoose p l y (headSpec ws rm) cc maxL ret e s m args below meth c s₁ → c.maxLocals = maxL → Pc args s →
      W p l e (headSpec ws rm).room s m args below meth c s.heap [] 0 0 (vx_MQ below Qc XC args s mc ms free) (entryFrame m args maxL)) : vx_Met l y ws rm Pc Qc XC mc ms free := by
  refine MetFree.of_bodyS (code := cc) (maxLocals := maxL) (ret := ret) hy ?_ ?_
  · intro args s m h hn
    obtain ⟨m9, meth, c, hn9, h1, h2, h3, h4, -, h5, h6, -⟩ := Cond.codeWith_spec (atoms_spec (ws := ws) h _ (by rw [hw]; exact List.mem_cons_self))
    cases hn.symm.trans hn9
    exact ⟨meth, c, h1, h2, h3, h4, h5, h6⟩
  · intro p e s m args below meth c s₁ B hml hP _
    have hh0 : s₁.heap = s.heap := by rw [B.state]; rfl
    obtain ⟨t, a1, o, b1, b2, b3⟩ := body p e s m args below meth c s₁ B hml hP s₁ hh0 (Stand.of_body B)
    exact ⟨t, o, a1, b1, b2, b3⟩
/-! ===== END ===== -/
end
section
def RX0 : String := "PackedDecimals$Arithmetic"
def TX0 : u_T := fun k => match k with
  | 0 => ("PackedDecimals$Arithmetic", "left", "LPackedDecimals$Natural;", true)
  | 1 => ("PackedDecimals$Arithmetic", "right", "LPackedDecimals$Natural;", true)
  | 2 => ("PackedDecimals$Arithmetic", "quotient", "LPackedDecimals$Natural;", true)
  | _ => ("PackedDecimals$Arithmetic", "spare", "LPackedDecimals$Natural;", true)
def tyX0 : Nat → FieldType := fun k => match k with
  | 0 => .object "PackedDecimals$Natural"
  | 1 => .object "PackedDecimals$Natural"
  | 2 => .object "PackedDecimals$Natural"
  | _ => .object "PackedDecimals$Natural"
abbrev wsX00 : List Cond := u_ws RX0 TX0 4
theorem nmX0 : ∀ a, a < 4 → ∀ b, b < 4 → a ≠ b → (TX0 a).2.1 ≠ (TX0 b).2.1 := by decide +kernel
theorem tyX0_ok : ∀ k, k < 4 → parseFieldDescriptor (TX0 k).2.2.1 = some (tyX0 k) := by decide +kernel
abbrev cX0_init : ByteArray := prog_2_method_1_code
def yX0_init : MethodName := ⟨RX0, "<init>", "()V"⟩
abbrev cX0_add : ByteArray := prog_2_method_2_code
def yX0_add : MethodName := ⟨RX0, "add", "(LPackedDecimals$Fraction;LPackedDecimals$Fraction;ZLPackedDecimals$Fraction;)V"⟩
abbrev cX0_multiply : ByteArray := prog_2_method_3_code
def yX0_multiply : MethodName := ⟨RX0, "multiply", "(LPackedDecimals$Fraction;LPackedDecimals$Fraction;LPackedDecimals$Fraction;)V"⟩
abbrev cX0_divide : ByteArray := prog_2_method_4_code
def yX0_divide : MethodName := ⟨RX0, "divide", "(LPackedDecimals$Fraction;LPackedDecimals$Fraction;LPackedDecimals$Fraction;)Z"⟩
abbrev cX0_remainder : ByteArray := prog_2_method_5_code
def yX0_remainder : MethodName := ⟨RX0, "remainder", "(LPackedDecimals$Fraction;LPackedDecimals$Fraction;LPackedDecimals$Fraction;)Z"⟩
abbrev cX0_shift : ByteArray := prog_2_method_6_code
def yX0_shift : MethodName := ⟨RX0, "shift", "(LPackedDecimals$Fraction;ILPackedDecimals$Fraction;)V"⟩
abbrev cX0_divideWhole : ByteArray := prog_2_method_7_code
def yX0_divideWhole : MethodName := ⟨RX0, "divideWhole", "(LPackedDecimals$Fraction;LPackedDecimals$Fraction;LPackedDecimals$Fraction;)Z"⟩
abbrev cX0_remainderWhole : ByteArray := prog_2_method_8_code
def yX0_remainderWhole : MethodName := ⟨RX0, "remainderWhole", "(LPackedDecimals$Fraction;LPackedDecimals$Fraction;LPackedDecimals$Fraction;)Z"⟩
abbrev cX0_wholeBits : ByteArray := prog_2_method_9_code
def yX0_wholeBits : MethodName := ⟨RX0, "wholeBits", "(LPackedDecimals$Fraction;)J"⟩
abbrev cX0_order : ByteArray := prog_2_method_10_code
def yX0_order : MethodName := ⟨RX0, "order", "(LPackedDecimals$Fraction;LPackedDecimals$Fraction;)I"⟩
abbrev cX0_cross : ByteArray := prog_2_method_11_code
def yX0_cross : MethodName := ⟨RX0, "cross", "(LPackedDecimals$Fraction;LPackedDecimals$Fraction;)V"⟩
def RX1 : String := "PackedDecimals$Floating"
def TX1 : u_T := fun k => match k with
  | _ => ("", "", "", false)
def tyX1 : Nat → FieldType := fun k => match k with
  | _ => .int
abbrev wsX10 : List Cond := u_ws RX1 TX1 0
theorem nmX1 : ∀ a, a < 0 → ∀ b, b < 0 → a ≠ b → (TX1 a).2.1 ≠ (TX1 b).2.1 := by decide +kernel
theorem tyX1_ok : ∀ k, k < 0 → parseFieldDescriptor (TX1 k).2.2.1 = some (tyX1 k) := by decide +kernel
abbrev cX1_precision : ByteArray := prog_3_method_2_code
def yX1_precision : MethodName := ⟨RX1, "precision", "(LPackedDecimals$Numeral;)I"⟩
abbrev cX1_bias : ByteArray := prog_3_method_3_code
def yX1_bias : MethodName := ⟨RX1, "bias", "(LPackedDecimals$Numeral;)I"⟩
abbrev cX1_tooSmall : ByteArray := prog_3_method_4_code
def yX1_tooSmall : MethodName := ⟨RX1, "tooSmall", "(LPackedDecimals$Numeral;J)Z"⟩
abbrev cX1_tooGreat : ByteArray := prog_3_method_5_code
def yX1_tooGreat : MethodName := ⟨RX1, "tooGreat", "(LPackedDecimals$Numeral;J)Z"⟩
def RX2 : String := "PackedDecimals$Fraction"
def TX2 : u_T := fun k => match k with
  | 0 => ("PackedDecimals$Fraction", "negative", "Z", false)
  | 1 => ("PackedDecimals$Fraction", "over", "LPackedDecimals$Natural;", true)
  | _ => ("PackedDecimals$Fraction", "under", "LPackedDecimals$Natural;", true)
def tyX2 : Nat → FieldType := fun k => match k with
  | 0 => .boolean
  | 1 => .object "PackedDecimals$Natural"
  | _ => .object "PackedDecimals$Natural"
abbrev wsX20 : List Cond := u_ws RX2 TX2 3
theorem nmX2 : ∀ a, a < 3 → ∀ b, b < 3 → a ≠ b → (TX2 a).2.1 ≠ (TX2 b).2.1 := by decide +kernel
theorem tyX2_ok : ∀ k, k < 3 → parseFieldDescriptor (TX2 k).2.2.1 = some (tyX2 k) := by decide +kernel
abbrev cX2_init : ByteArray := prog_4_method_1_code
def yX2_init : MethodName := ⟨RX2, "<init>", "()V"⟩
abbrev cX2_sign : ByteArray := prog_4_method_2_code
def yX2_sign : MethodName := ⟨RX2, "sign", "(Z)V"⟩
abbrev cX2_becomeOver : ByteArray := prog_4_method_3_code
def yX2_becomeOver : MethodName := ⟨RX2, "becomeOver", "(LPackedDecimals$Natural;Z)V"⟩
abbrev cX2_becomeWhole : ByteArray := prog_4_method_4_code
def yX2_becomeWhole : MethodName := ⟨RX2, "becomeWhole", "(J)V"⟩
def RX3 : String := "PackedDecimals$Natural"
def TX3 : u_T := fun k => match k with
  | 0 => ("PackedDecimals$Natural", "limbs", "[I", true)
  | _ => ("PackedDecimals$Natural", "used", "I", false)
def tyX3 : Nat → FieldType := fun k => match k with
  | 0 => .array .int
  | _ => .int
abbrev wsX30 : List Cond := u_ws RX3 TX3 2
theorem nmX3 : ∀ a, a < 2 → ∀ b, b < 2 → a ≠ b → (TX3 a).2.1 ≠ (TX3 b).2.1 := by decide +kernel
theorem tyX3_ok : ∀ k, k < 2 → parseFieldDescriptor (TX3 k).2.2.1 = some (tyX3 k) := by decide +kernel
abbrev cX3_init : ByteArray := prog_5_method_1_code
def yX3_init : MethodName := ⟨RX3, "<init>", "()V"⟩
abbrev cX3_clear : ByteArray := prog_5_method_2_code
def yX3_clear : MethodName := ⟨RX3, "clear", "()V"⟩
abbrev cX3_become : ByteArray := prog_5_method_3_code
def yX3_become : MethodName := ⟨RX3, "become", "(J)V"⟩
abbrev cX3_copy : ByteArray := prog_5_method_4_code
def yX3_copy : MethodName := ⟨RX3, "copy", "(LPackedDecimals$Natural;)V"⟩
abbrev cX3_isZero : ByteArray := prog_5_method_5_code
def yX3_isZero : MethodName := ⟨RX3, "isZero", "()Z"⟩
abbrev cX3_isOdd : ByteArray := prog_5_method_6_code
def yX3_isOdd : MethodName := ⟨RX3, "isOdd", "()Z"⟩
abbrev cX3_lowBits : ByteArray := prog_5_method_7_code
def yX3_lowBits : MethodName := ⟨RX3, "lowBits", "()J"⟩
abbrev cX3_bitLength : ByteArray := prog_5_method_8_code
def yX3_bitLength : MethodName := ⟨RX3, "bitLength", "()I"⟩
abbrev cX3_topLength : ByteArray := prog_5_method_9_code
def yX3_topLength : MethodName := ⟨RX3, "topLength", "()I"⟩
abbrev cX3_settle : ByteArray := prog_5_method_10_code
def yX3_settle : MethodName := ⟨RX3, "settle", "(I)V"⟩
abbrev cX3_against : ByteArray := prog_5_method_11_code
def yX3_against : MethodName := ⟨RX3, "against", "(LPackedDecimals$Natural;)I"⟩
abbrev cX3_timesPlus : ByteArray := prog_5_method_12_code
def yX3_timesPlus : MethodName := ⟨RX3, "timesPlus", "(II)V"⟩
abbrev cX3_timesTenTo : ByteArray := prog_5_method_13_code
def yX3_timesTenTo : MethodName := ⟨RX3, "timesTenTo", "(I)V"⟩
abbrev cX3_plus : ByteArray := prog_5_method_14_code
def yX3_plus : MethodName := ⟨RX3, "plus", "(LPackedDecimals$Natural;)V"⟩
abbrev cX3_minus : ByteArray := prog_5_method_15_code
def yX3_minus : MethodName := ⟨RX3, "minus", "(LPackedDecimals$Natural;)V"⟩
abbrev cX3_becomeProduct : ByteArray := prog_5_method_16_code
def yX3_becomeProduct : MethodName := ⟨RX3, "becomeProduct", "(LPackedDecimals$Natural;LPackedDecimals$Natural;)V"⟩
abbrev cX3_shiftLeft : ByteArray := prog_5_method_17_code
def yX3_shiftLeft : MethodName := ⟨RX3, "shiftLeft", "(I)V"⟩
abbrev cX3_shiftRight : ByteArray := prog_5_method_18_code
def yX3_shiftRight : MethodName := ⟨RX3, "shiftRight", "(I)V"⟩
abbrev cX3_takeDigit : ByteArray := prog_5_method_19_code
def yX3_takeDigit : MethodName := ⟨RX3, "takeDigit", "()I"⟩
abbrev cX3_takeOctet : ByteArray := prog_5_method_20_code
def yX3_takeOctet : MethodName := ⟨RX3, "takeOctet", "()I"⟩
abbrev cX3_divide : ByteArray := prog_5_method_21_code
def yX3_divide : MethodName := ⟨RX3, "divide", "(LPackedDecimals$Natural;LPackedDecimals$Natural;LPackedDecimals$Natural;)V"⟩
abbrev cX3_takeTimes : ByteArray := prog_5_method_22_code
def yX3_takeTimes : MethodName := ⟨RX3, "takeTimes", "(LPackedDecimals$Natural;I)I"⟩
abbrev cX3_guessTimes : ByteArray := prog_5_method_23_code
def yX3_guessTimes : MethodName := ⟨RX3, "guessTimes", "(LPackedDecimals$Natural;I)I"⟩
def RX4 : String := "PackedDecimals$Numeral"
def TX4 : u_T := fun k => match k with
  | 0 => ("PackedDecimals$Numeral", "usage", "I", true)
  | 1 => ("PackedDecimals$Numeral", "digits", "I", true)
  | 2 => ("PackedDecimals$Numeral", "scale", "I", true)
  | 3 => ("PackedDecimals$Numeral", "bytes", "[B", true)
  | _ => ("PackedDecimals$Numeral", "rounding", "I", false)
def tyX4 : Nat → FieldType := fun k => match k with
  | 0 => .int
  | 1 => .int
  | 2 => .int
  | 3 => .array .byte
  | _ => .int
abbrev wsX40 : List Cond := u_ws RX4 TX4 5
theorem nmX4 : ∀ a, a < 5 → ∀ b, b < 5 → a ≠ b → (TX4 a).2.1 ≠ (TX4 b).2.1 := by decide +kernel
theorem tyX4_ok : ∀ k, k < 5 → parseFieldDescriptor (TX4 k).2.2.1 = some (tyX4 k) := by decide +kernel
abbrev cX4_init : ByteArray := prog_6_method_1_code
def yX4_init : MethodName := ⟨RX4, "<init>", "(III)V"⟩
abbrev cX4_byteCount : ByteArray := prog_6_method_2_code
def yX4_byteCount : MethodName := ⟨RX4, "byteCount", "(II)I"⟩
abbrev cX4_floating : ByteArray := prog_6_method_3_code
def yX4_floating : MethodName := ⟨RX4, "floating", "()Z"⟩
abbrev cX4_signless : ByteArray := prog_6_method_4_code
def yX4_signless : MethodName := ⟨RX4, "signless", "()Z"⟩
abbrev cX4_signedDigit : ByteArray := prog_6_method_5_code
def yX4_signedDigit : MethodName := ⟨RX4, "signedDigit", "()I"⟩
abbrev cX4_signByte : ByteArray := prog_6_method_6_code
def yX4_signByte : MethodName := ⟨RX4, "signByte", "()I"⟩
abbrev cX4_firstZonedByte : ByteArray := prog_6_method_7_code
def yX4_firstZonedByte : MethodName := ⟨RX4, "firstZonedByte", "()I"⟩
abbrev cX4_packedLead : ByteArray := prog_6_method_8_code
def yX4_packedLead : MethodName := ⟨RX4, "packedLead", "()I"⟩
abbrev cX4_get : ByteArray := prog_6_method_9_code
def yX4_get : MethodName := ⟨RX4, "get", "(I)I"⟩
abbrev cX4_put : ByteArray := prog_6_method_10_code
def yX4_put : MethodName := ⟨RX4, "put", "(II)V"⟩
abbrev cX4_nibble : ByteArray := prog_6_method_11_code
def yX4_nibble : MethodName := ⟨RX4, "nibble", "(I)I"⟩
abbrev cX4_putNibble : ByteArray := prog_6_method_12_code
def yX4_putNibble : MethodName := ⟨RX4, "putNibble", "(II)V"⟩
def RX5 : String := "PackedDecimals$Reader"
def TX5 : u_T := fun k => match k with
  | _ => ("PackedDecimals$Reader", "limit", "LPackedDecimals$Natural;", true)
def tyX5 : Nat → FieldType := fun k => match k with
  | _ => .object "PackedDecimals$Natural"
abbrev wsX50 : List Cond := u_ws RX5 TX5 1
theorem nmX5 : ∀ a, a < 1 → ∀ b, b < 1 → a ≠ b → (TX5 a).2.1 ≠ (TX5 b).2.1 := by decide +kernel
theorem tyX5_ok : ∀ k, k < 1 → parseFieldDescriptor (TX5 k).2.2.1 = some (tyX5 k) := by decide +kernel
abbrev cX5_init : ByteArray := prog_7_method_1_code
def yX5_init : MethodName := ⟨RX5, "<init>", "()V"⟩
abbrev cX5_read : ByteArray := prog_7_method_2_code
def yX5_read : MethodName := ⟨RX5, "read", "(LPackedDecimals$Numeral;LPackedDecimals$Fraction;)Z"⟩
abbrev cX5_readSize : ByteArray := prog_7_method_3_code
def yX5_readSize : MethodName := ⟨RX5, "readSize", "(LPackedDecimals$Numeral;LPackedDecimals$Fraction;)Z"⟩
abbrev cX5_readZoned : ByteArray := prog_7_method_4_code
def yX5_readZoned : MethodName := ⟨RX5, "readZoned", "(LPackedDecimals$Numeral;LPackedDecimals$Fraction;)Z"⟩
abbrev cX5_readPacked : ByteArray := prog_7_method_5_code
def yX5_readPacked : MethodName := ⟨RX5, "readPacked", "(LPackedDecimals$Numeral;LPackedDecimals$Fraction;)Z"⟩
abbrev cX5_readNational : ByteArray := prog_7_method_6_code
def yX5_readNational : MethodName := ⟨RX5, "readNational", "(LPackedDecimals$Numeral;LPackedDecimals$Fraction;)Z"⟩
abbrev cX5_readBinary : ByteArray := prog_7_method_7_code
def yX5_readBinary : MethodName := ⟨RX5, "readBinary", "(LPackedDecimals$Numeral;LPackedDecimals$Fraction;)Z"⟩
abbrev cX5_readFloating : ByteArray := prog_7_method_8_code
def yX5_readFloating : MethodName := ⟨RX5, "readFloating", "(LPackedDecimals$Numeral;LPackedDecimals$Fraction;)Z"⟩
abbrev cX5_belowTenTo : ByteArray := prog_7_method_9_code
def yX5_belowTenTo : MethodName := ⟨RX5, "belowTenTo", "(ILPackedDecimals$Natural;)Z"⟩
abbrev cX5_appendDigit : ByteArray := prog_7_method_10_code
def yX5_appendDigit : MethodName := ⟨RX5, "appendDigit", "(ILPackedDecimals$Fraction;)Z"⟩
abbrev cX5_takeSign : ByteArray := prog_7_method_11_code
def yX5_takeSign : MethodName := ⟨RX5, "takeSign", "(ILPackedDecimals$Fraction;)Z"⟩
abbrev cX5_signOfNibble : ByteArray := prog_7_method_12_code
def yX5_signOfNibble : MethodName := ⟨RX5, "signOfNibble", "(I)I"⟩
abbrev cX5_signOfByte : ByteArray := prog_7_method_13_code
def yX5_signOfByte : MethodName := ⟨RX5, "signOfByte", "(III)I"⟩
def RX6 : String := "PackedDecimals$Storage"
def TX6 : u_T := fun k => match k with
  | 0 => ("PackedDecimals$Storage", "writer", "LPackedDecimals$Writer;", true)
  | 1 => ("PackedDecimals$Storage", "whole", "LPackedDecimals$Natural;", true)
  | 2 => ("PackedDecimals$Storage", "rest", "LPackedDecimals$Natural;", true)
  | 3 => ("PackedDecimals$Storage", "under", "LPackedDecimals$Natural;", true)
  | 4 => ("PackedDecimals$Storage", "spare", "LPackedDecimals$Natural;", true)
  | _ => ("PackedDecimals$Storage", "exact", "Z", false)
def tyX6 : Nat → FieldType := fun k => match k with
  | 0 => .object "PackedDecimals$Writer"
  | 1 => .object "PackedDecimals$Natural"
  | 2 => .object "PackedDecimals$Natural"
  | 3 => .object "PackedDecimals$Natural"
  | 4 => .object "PackedDecimals$Natural"
  | _ => .boolean
abbrev wsX60 : List Cond := u_ws RX6 TX6 6
theorem nmX6 : ∀ a, a < 6 → ∀ b, b < 6 → a ≠ b → (TX6 a).2.1 ≠ (TX6 b).2.1 := by decide +kernel
theorem tyX6_ok : ∀ k, k < 6 → parseFieldDescriptor (TX6 k).2.2.1 = some (tyX6 k) := by decide +kernel
abbrev cX6_init : ByteArray := prog_8_method_1_code
def yX6_init : MethodName := ⟨RX6, "<init>", "()V"⟩
abbrev cX6_store : ByteArray := prog_8_method_2_code
def yX6_store : MethodName := ⟨RX6, "store", "(LPackedDecimals$Numeral;LPackedDecimals$Fraction;)Z"⟩
abbrev cX6_move : ByteArray := prog_8_method_3_code
def yX6_move : MethodName := ⟨RX6, "move", "(LPackedDecimals$Numeral;LPackedDecimals$Fraction;)Z"⟩
abbrev cX6_storeFloating : ByteArray := prog_8_method_4_code
def yX6_storeFloating : MethodName := ⟨RX6, "storeFloating", "(LPackedDecimals$Numeral;LPackedDecimals$Fraction;)Z"⟩
abbrev cX6_moveFloating : ByteArray := prog_8_method_5_code
def yX6_moveFloating : MethodName := ⟨RX6, "moveFloating", "(LPackedDecimals$Numeral;LPackedDecimals$Fraction;)Z"⟩
abbrev cX6_split : ByteArray := prog_8_method_6_code
def yX6_split : MethodName := ⟨RX6, "split", "(LPackedDecimals$Fraction;I)V"⟩
abbrev cX6_roundsAway : ByteArray := prog_8_method_7_code
def yX6_roundsAway : MethodName := ⟨RX6, "roundsAway", "(ILPackedDecimals$Fraction;)Z"⟩
abbrev cX6_fits : ByteArray := prog_8_method_8_code
def yX6_fits : MethodName := ⟨RX6, "fits", "(LPackedDecimals$Numeral;Z)Z"⟩
abbrev cX6_keepDigits : ByteArray := prog_8_method_9_code
def yX6_keepDigits : MethodName := ⟨RX6, "keepDigits", "(I)V"⟩
abbrev cX6_nearest : ByteArray := prog_8_method_10_code
def yX6_nearest : MethodName := ⟨RX6, "nearest", "(LPackedDecimals$Numeral;LPackedDecimals$Fraction;)J"⟩
abbrev cX6_scaleTo : ByteArray := prog_8_method_11_code
def yX6_scaleTo : MethodName := ⟨RX6, "scaleTo", "(ILPackedDecimals$Fraction;)I"⟩
abbrev cX6_roundOff : ByteArray := prog_8_method_12_code
def yX6_roundOff : MethodName := ⟨RX6, "roundOff", "(I)J"⟩
def RX7 : String := "PackedDecimals$Writer"
def TX7 : u_T := fun k => match k with
  | _ => ("", "", "", false)
def tyX7 : Nat → FieldType := fun k => match k with
  | _ => .int
abbrev wsX70 : List Cond := u_ws RX7 TX7 0
theorem nmX7 : ∀ a, a < 0 → ∀ b, b < 0 → a ≠ b → (TX7 a).2.1 ≠ (TX7 b).2.1 := by decide +kernel
theorem tyX7_ok : ∀ k, k < 0 → parseFieldDescriptor (TX7 k).2.2.1 = some (tyX7 k) := by decide +kernel
abbrev cX7_init : ByteArray := prog_9_method_1_code
def yX7_init : MethodName := ⟨RX7, "<init>", "()V"⟩
abbrev cX7_write : ByteArray := prog_9_method_2_code
def yX7_write : MethodName := ⟨RX7, "write", "(LPackedDecimals$Numeral;LPackedDecimals$Natural;Z)V"⟩
abbrev cX7_writeZoned : ByteArray := prog_9_method_3_code
def yX7_writeZoned : MethodName := ⟨RX7, "writeZoned", "(LPackedDecimals$Numeral;LPackedDecimals$Natural;Z)V"⟩
abbrev cX7_writePacked : ByteArray := prog_9_method_4_code
def yX7_writePacked : MethodName := ⟨RX7, "writePacked", "(LPackedDecimals$Numeral;LPackedDecimals$Natural;Z)V"⟩
abbrev cX7_writeNational : ByteArray := prog_9_method_5_code
def yX7_writeNational : MethodName := ⟨RX7, "writeNational", "(LPackedDecimals$Numeral;LPackedDecimals$Natural;Z)V"⟩
abbrev cX7_writeBinary : ByteArray := prog_9_method_6_code
def yX7_writeBinary : MethodName := ⟨RX7, "writeBinary", "(LPackedDecimals$Numeral;LPackedDecimals$Natural;Z)V"⟩
abbrev cX7_writeFloating : ByteArray := prog_9_method_7_code
def yX7_writeFloating : MethodName := ⟨RX7, "writeFloating", "(LPackedDecimals$Numeral;JZ)V"⟩
abbrev cX7_signNibble : ByteArray := prog_9_method_8_code
def yX7_signNibble : MethodName := ⟨RX7, "signNibble", "(Z)I"⟩
def RX8 : String := "PackedDecimals"
def TX8 : u_T := fun k => match k with
  | 0 => ("PackedDecimals", "numerals", "[LPackedDecimals$Numeral;", true)
  | 1 => ("PackedDecimals", "count", "I", false)
  | 2 => ("PackedDecimals", "reader", "LPackedDecimals$Reader;", true)
  | 3 => ("PackedDecimals", "arithmetic", "LPackedDecimals$Arithmetic;", true)
  | 4 => ("PackedDecimals", "storage", "LPackedDecimals$Storage;", true)
  | 5 => ("PackedDecimals", "first", "LPackedDecimals$Fraction;", true)
  | 6 => ("PackedDecimals", "second", "LPackedDecimals$Fraction;", true)
  | _ => ("PackedDecimals", "outcome", "LPackedDecimals$Fraction;", true)
def tyX8 : Nat → FieldType := fun k => match k with
  | 0 => .array (.object "PackedDecimals$Numeral")
  | 1 => .int
  | 2 => .object "PackedDecimals$Reader"
  | 3 => .object "PackedDecimals$Arithmetic"
  | 4 => .object "PackedDecimals$Storage"
  | 5 => .object "PackedDecimals$Fraction"
  | 6 => .object "PackedDecimals$Fraction"
  | _ => .object "PackedDecimals$Fraction"
abbrev wsX80 : List Cond := u_ws RX8 TX8 8
theorem nmX8 : ∀ a, a < 8 → ∀ b, b < 8 → a ≠ b → (TX8 a).2.1 ≠ (TX8 b).2.1 := by decide +kernel
theorem tyX8_ok : ∀ k, k < 8 → parseFieldDescriptor (TX8 k).2.2.1 = some (tyX8 k) := by decide +kernel
abbrev cX8_init : ByteArray := prog_1_method_1_code
def yX8_init : MethodName := ⟨RX8, "<init>", "()V"⟩
abbrev cX8_number : ByteArray := prog_1_method_2_code
def yX8_number : MethodName := ⟨RX8, "number", "(III)I"⟩
abbrev cX8_octet : ByteArray := prog_1_method_3_code
def yX8_octet : MethodName := ⟨RX8, "octet", "(IIB)V"⟩
abbrev cX8_at : ByteArray := prog_1_method_4_code
def yX8_at : MethodName := ⟨RX8, "at", "(II)B"⟩
abbrev cX8_size : ByteArray := prog_1_method_5_code
def yX8_size : MethodName := ⟨RX8, "size", "(I)I"⟩
abbrev cX8_apply : ByteArray := prog_1_method_6_code
def yX8_apply : MethodName := ⟨RX8, "apply", "(IIII)I"⟩
abbrev cX8_compare : ByteArray := prog_1_method_7_code
def yX8_compare : MethodName := ⟨RX8, "compare", "(II)I"⟩
abbrev cX8_valid : ByteArray := prog_1_method_8_code
def yX8_valid : MethodName := ⟨RX8, "valid", "(I)Z"⟩
abbrev cX8_convert : ByteArray := prog_1_method_9_code
def yX8_convert : MethodName := ⟨RX8, "convert", "(II)I"⟩
abbrev cX8_digit : ByteArray := prog_1_method_10_code
def yX8_digit : MethodName := ⟨RX8, "digit", "(II)I"⟩
abbrev cX8_round : ByteArray := prog_1_method_11_code
def yX8_round : MethodName := ⟨RX8, "round", "(II)I"⟩
abbrev cX8_half : ByteArray := prog_1_method_12_code
def yX8_half : MethodName := ⟨RX8, "half", "(I)S"⟩
abbrev cX8_find : ByteArray := prog_1_method_13_code
def yX8_find : MethodName := ⟨RX8, "find", "(I)LPackedDecimals$Numeral;"⟩
abbrev cX8_findWithByte : ByteArray := prog_1_method_14_code
def yX8_findWithByte : MethodName := ⟨RX8, "findWithByte", "(II)LPackedDecimals$Numeral;"⟩
abbrev cX8_calculate : ByteArray := prog_1_method_15_code
def yX8_calculate : MethodName := ⟨RX8, "calculate", "(II)Z"⟩
def RX9 : String := "PackedDecimalsModel"
def TX9 : u_T := fun k => match k with
  | 0 => ("PackedDecimalsModel", "thrown", "I", false)
  | 1 => ("PackedDecimalsModel", "bytes", "[B", true)
  | 2 => ("PackedDecimalsModel", "usages", "[I", true)
  | 3 => ("PackedDecimalsModel", "digits", "[I", true)
  | 4 => ("PackedDecimalsModel", "scales", "[I", true)
  | 5 => ("PackedDecimalsModel", "sizes", "[I", true)
  | 6 => ("PackedDecimalsModel", "kinds", "[I", true)
  | 7 => ("PackedDecimalsModel", "many", "I", false)
  | 8 => ("PackedDecimalsModel", "n", "[I", true)
  | 9 => ("PackedDecimalsModel", "sign", "I", false)
  | 10 => ("PackedDecimalsModel", "sign2", "I", false)
  | 11 => ("PackedDecimalsModel", "signTop", "I", false)
  | 12 => ("PackedDecimalsModel", "power", "I", false)
  | _ => ("PackedDecimalsModel", "exact", "Z", false)
def tyX9 : Nat → FieldType := fun k => match k with
  | 0 => .int
  | 1 => .array .byte
  | 2 => .array .int
  | 3 => .array .int
  | 4 => .array .int
  | 5 => .array .int
  | 6 => .array .int
  | 7 => .int
  | 8 => .array .int
  | 9 => .int
  | 10 => .int
  | 11 => .int
  | 12 => .int
  | _ => .boolean
abbrev wsX90 : List Cond := u_ws RX9 TX9 14
theorem nmX9 : ∀ a, a < 14 → ∀ b, b < 14 → a ≠ b → (TX9 a).2.1 ≠ (TX9 b).2.1 := by decide +kernel
theorem tyX9_ok : ∀ k, k < 14 → parseFieldDescriptor (TX9 k).2.2.1 = some (tyX9 k) := by decide +kernel
abbrev cX9_init : ByteArray := prog_11_method_1_code
def yX9_init : MethodName := ⟨RX9, "<init>", "()V"⟩
abbrev cX9_thrown : ByteArray := prog_11_method_2_code
def yX9_thrown : MethodName := ⟨RX9, "thrown", "()I"⟩
abbrev cX9_fails : ByteArray := prog_11_method_3_code
def yX9_fails : MethodName := ⟨RX9, "fails", "(ZZ)Z"⟩
abbrev cX9_clear : ByteArray := prog_11_method_4_code
def yX9_clear : MethodName := ⟨RX9, "clear", "(I)V"⟩
abbrev cX9_small : ByteArray := prog_11_method_5_code
def yX9_small : MethodName := ⟨RX9, "small", "(II)V"⟩
abbrev cX9_copy : ByteArray := prog_11_method_6_code
def yX9_copy : MethodName := ⟨RX9, "copy", "(II)V"⟩
abbrev cX9_isZero : ByteArray := prog_11_method_7_code
def yX9_isZero : MethodName := ⟨RX9, "isZero", "(I)Z"⟩
abbrev cX9_order : ByteArray := prog_11_method_8_code
def yX9_order : MethodName := ⟨RX9, "order", "(II)I"⟩
abbrev cX9_add : ByteArray := prog_11_method_9_code
def yX9_add : MethodName := ⟨RX9, "add", "(II)V"⟩
abbrev cX9_less : ByteArray := prog_11_method_10_code
def yX9_less : MethodName := ⟨RX9, "less", "(II)V"⟩
abbrev cX9_times : ByteArray := prog_11_method_11_code
def yX9_times : MethodName := ⟨RX9, "times", "(II)V"⟩
abbrev cX9_plus : ByteArray := prog_11_method_12_code
def yX9_plus : MethodName := ⟨RX9, "plus", "(II)V"⟩
abbrev cX9_tens : ByteArray := prog_11_method_13_code
def yX9_tens : MethodName := ⟨RX9, "tens", "(II)V"⟩
abbrev cX9_twice : ByteArray := prog_11_method_14_code
def yX9_twice : MethodName := ⟨RX9, "twice", "(II)V"⟩
abbrev cX9_product : ByteArray := prog_11_method_15_code
def yX9_product : MethodName := ⟨RX9, "product", "(III)V"⟩
abbrev cX9_bit : ByteArray := prog_11_method_16_code
def yX9_bit : MethodName := ⟨RX9, "bit", "(II)I"⟩
abbrev cX9_length : ByteArray := prog_11_method_17_code
def yX9_length : MethodName := ⟨RX9, "length", "(I)I"⟩
abbrev cX9_divide : ByteArray := prog_11_method_18_code
def yX9_divide : MethodName := ⟨RX9, "divide", "(II)V"⟩
abbrev cX9_isNumber : ByteArray := prog_11_method_19_code
def yX9_isNumber : MethodName := ⟨RX9, "isNumber", "(I)Z"⟩
abbrev cX9_sizeOf : ByteArray := prog_11_method_20_code
def yX9_sizeOf : MethodName := ⟨RX9, "sizeOf", "(II)I"⟩
abbrev cX9_number : ByteArray := prog_11_method_21_code
def yX9_number : MethodName := ⟨RX9, "number", "(III)I"⟩
abbrev cX9_isByte : ByteArray := prog_11_method_22_code
def yX9_isByte : MethodName := ⟨RX9, "isByte", "(II)Z"⟩
abbrev cX9_octet : ByteArray := prog_11_method_23_code
def yX9_octet : MethodName := ⟨RX9, "octet", "(IIB)V"⟩
abbrev cX9_at : ByteArray := prog_11_method_24_code
def yX9_at : MethodName := ⟨RX9, "at", "(II)B"⟩
abbrev cX9_size : ByteArray := prog_11_method_25_code
def yX9_size : MethodName := ⟨RX9, "size", "(I)I"⟩
abbrev cX9_read : ByteArray := prog_11_method_26_code
def yX9_read : MethodName := ⟨RX9, "read", "(II)I"⟩
abbrev cX9_signOf : ByteArray := prog_11_method_27_code
def yX9_signOf : MethodName := ⟨RX9, "signOf", "(I)I"⟩
abbrev cX9_gains : ByteArray := prog_11_method_28_code
def yX9_gains : MethodName := ⟨RX9, "gains", "(I)Z"⟩
abbrev cX9_load : ByteArray := prog_11_method_29_code
def yX9_load : MethodName := ⟨RX9, "load", "(I)Z"⟩
abbrev cX9_loadZoned : ByteArray := prog_11_method_30_code
def yX9_loadZoned : MethodName := ⟨RX9, "loadZoned", "(II)Z"⟩
abbrev cX9_loadPacked : ByteArray := prog_11_method_31_code
def yX9_loadPacked : MethodName := ⟨RX9, "loadPacked", "(I)Z"⟩
abbrev cX9_loadBinary : ByteArray := prog_11_method_32_code
def yX9_loadBinary : MethodName := ⟨RX9, "loadBinary", "(I)Z"⟩
abbrev cX9_loadFloat : ByteArray := prog_11_method_33_code
def yX9_loadFloat : MethodName := ⟨RX9, "loadFloat", "(I)Z"⟩
abbrev cX9_isMiddle : ByteArray := prog_11_method_34_code
def yX9_isMiddle : MethodName := ⟨RX9, "isMiddle", "(II)Z"⟩
abbrev cX9_valid : ByteArray := prog_11_method_35_code
def yX9_valid : MethodName := ⟨RX9, "valid", "(I)Z"⟩
abbrev cX9_rises : ByteArray := prog_11_method_36_code
def yX9_rises : MethodName := ⟨RX9, "rises", "(II)Z"⟩
abbrev cX9_store : ByteArray := prog_11_method_37_code
def yX9_store : MethodName := ⟨RX9, "store", "(I)I"⟩
abbrev cX9_fits : ByteArray := prog_11_method_38_code
def yX9_fits : MethodName := ⟨RX9, "fits", "(II)Z"⟩
abbrev cX9_put : ByteArray := prog_11_method_39_code
def yX9_put : MethodName := ⟨RX9, "put", "(III)V"⟩
abbrev cX9_write : ByteArray := prog_11_method_40_code
def yX9_write : MethodName := ⟨RX9, "write", "(II)V"⟩
abbrev cX9_writeBinary : ByteArray := prog_11_method_41_code
def yX9_writeBinary : MethodName := ⟨RX9, "writeBinary", "(II)V"⟩
abbrev cX9_storeFloat : ByteArray := prog_11_method_42_code
def yX9_storeFloat : MethodName := ⟨RX9, "storeFloat", "(IZ)I"⟩
abbrev cX9_nearest : ByteArray := prog_11_method_43_code
def yX9_nearest : MethodName := ⟨RX9, "nearest", "(I)V"⟩
abbrev cX9_second : ByteArray := prog_11_method_44_code
def yX9_second : MethodName := ⟨RX9, "second", "()V"⟩
abbrev cX9_whole : ByteArray := prog_11_method_45_code
def yX9_whole : MethodName := ⟨RX9, "whole", "()J"⟩
abbrev cX9_fromLong : ByteArray := prog_11_method_46_code
def yX9_fromLong : MethodName := ⟨RX9, "fromLong", "(J)V"⟩
abbrev cX9_apply : ByteArray := prog_11_method_47_code
def yX9_apply : MethodName := ⟨RX9, "apply", "(IIII)I"⟩
abbrev cX9_stored : ByteArray := prog_11_method_48_code
def yX9_stored : MethodName := ⟨RX9, "stored", "(I)I"⟩
abbrev cX9_wholes : ByteArray := prog_11_method_49_code
def yX9_wholes : MethodName := ⟨RX9, "wholes", "(IIII)I"⟩
abbrev cX9_sum : ByteArray := prog_11_method_50_code
def yX9_sum : MethodName := ⟨RX9, "sum", "(I)V"⟩
abbrev cX9_exactly : ByteArray := prog_11_method_51_code
def yX9_exactly : MethodName := ⟨RX9, "exactly", "(I)V"⟩
abbrev cX9_compare : ByteArray := prog_11_method_52_code
def yX9_compare : MethodName := ⟨RX9, "compare", "(II)I"⟩
abbrev cX9_convert : ByteArray := prog_11_method_53_code
def yX9_convert : MethodName := ⟨RX9, "convert", "(II)I"⟩
abbrev cX9_digit : ByteArray := prog_11_method_54_code
def yX9_digit : MethodName := ⟨RX9, "digit", "(II)I"⟩
abbrev cX9_round : ByteArray := prog_11_method_55_code
def yX9_round : MethodName := ⟨RX9, "round", "(II)I"⟩
abbrev cX9_half : ByteArray := prog_11_method_56_code
def yX9_half : MethodName := ⟨RX9, "half", "(I)S"⟩
def RJx00060 : String := "java/lang/ArrayIndexOutOfBoundsException"
def TJx00060 : u_T := fun k => match k with
  | 0 => ("java/lang/Throwable", "cause", "Ljava/lang/Throwable;", false)
  | 1 => ("java/lang/Throwable", "stackTrace", "[Ljava/lang/StackTraceElement;", false)
  | 2 => ("java/lang/Throwable", "suppressedExceptions", "Ljava/util/List;", false)
  | 3 => ("java/lang/Throwable", "detailMessage", "Ljava/lang/String;", false)
  | 4 => ("java/lang/Throwable", "backtrace", "Ljava/lang/Object;", false)
  | _ => ("java/lang/Throwable", "depth", "I", false)
def tyJx00060 : Nat → FieldType := fun k => match k with
  | 0 => .object "java/lang/Throwable"
  | 1 => .array (.object "java/lang/StackTraceElement")
  | 2 => .object "java/util/List"
  | 3 => .object "java/lang/String"
  | 4 => .object "java/lang/Object"
  | _ => .int
abbrev wsJx000600 : List Cond := u_ws RJx00060 TJx00060 6
theorem nmJx00060 : ∀ a, a < 6 → ∀ b, b < 6 → a ≠ b → (TJx00060 a).2.1 ≠ (TJx00060 b).2.1 := by decide +kernel
theorem tyJx00060_ok : ∀ k, k < 6 → parseFieldDescriptor (TJx00060 k).2.2.1 = some (tyJx00060 k) := by decide +kernel
abbrev cJx00060_init_a7421 : ByteArray := prog_13_method_2_code
def yJx00060_init_a7421 : MethodName := ⟨RJx00060, "<init>", "(Ljava/lang/String;)V"⟩
def RJ9 : String := "java/lang/Math"
def TJ9 : u_T := fun k => match k with
  | _ => ("", "", "", false)
def tyJ9 : Nat → FieldType := fun k => match k with
  | _ => .int
abbrev wsJ90 : List Cond := u_ws RJ9 TJ9 0
theorem nmJ9 : ∀ a, a < 0 → ∀ b, b < 0 → a ≠ b → (TJ9 a).2.1 ≠ (TJ9 b).2.1 := by decide +kernel
theorem tyJ9_ok : ∀ k, k < 0 → parseFieldDescriptor (TJ9 k).2.2.1 = some (tyJ9 k) := by decide +kernel
abbrev cJ9_max_7cf53 : ByteArray := prog_16_method_65_code
def yJ9_max_7cf53 : MethodName := ⟨RJ9, "max", "(II)I"⟩
abbrev cJ9_min_7cf53 : ByteArray := prog_16_method_69_code
def yJ9_min_7cf53 : MethodName := ⟨RJ9, "min", "(II)I"⟩
def RJxde1cd : String := "java/lang/NegativeArraySizeException"
def TJxde1cd : u_T := fun k => match k with
  | 0 => ("java/lang/Throwable", "cause", "Ljava/lang/Throwable;", false)
  | 1 => ("java/lang/Throwable", "stackTrace", "[Ljava/lang/StackTraceElement;", false)
  | 2 => ("java/lang/Throwable", "suppressedExceptions", "Ljava/util/List;", false)
  | 3 => ("java/lang/Throwable", "detailMessage", "Ljava/lang/String;", false)
  | 4 => ("java/lang/Throwable", "backtrace", "Ljava/lang/Object;", false)
  | _ => ("java/lang/Throwable", "depth", "I", false)
def tyJxde1cd : Nat → FieldType := fun k => match k with
  | 0 => .object "java/lang/Throwable"
  | 1 => .array (.object "java/lang/StackTraceElement")
  | 2 => .object "java/util/List"
  | 3 => .object "java/lang/String"
  | 4 => .object "java/lang/Object"
  | _ => .int
abbrev wsJxde1cd0 : List Cond := u_ws RJxde1cd TJxde1cd 6
theorem nmJxde1cd : ∀ a, a < 6 → ∀ b, b < 6 → a ≠ b → (TJxde1cd a).2.1 ≠ (TJxde1cd b).2.1 := by decide +kernel
theorem tyJxde1cd_ok : ∀ k, k < 6 → parseFieldDescriptor (TJxde1cd k).2.2.1 = some (tyJxde1cd k) := by decide +kernel
abbrev cJxde1cd_init_a7421 : ByteArray := prog_17_method_2_code
def yJxde1cd_init_a7421 : MethodName := ⟨RJxde1cd, "<init>", "(Ljava/lang/String;)V"⟩
def RJ0 : String := "java/lang/String"
def TJ0 : u_T := fun k => match k with
  | _ => ("", "", "", false)
def tyJ0 : Nat → FieldType := fun k => match k with
  | _ => .int
abbrev wsJ00 : List Cond := u_ws RJ0 TJ0 0
theorem nmJ0 : ∀ a, a < 0 → ∀ b, b < 0 → a ≠ b → (TJ0 a).2.1 ≠ (TJ0 b).2.1 := by decide +kernel
theorem tyJ0_ok : ∀ k, k < 0 → parseFieldDescriptor (TJ0 k).2.2.1 = some (tyJ0 k) := by decide +kernel
def RL : String := "PackedDecimalsLaw"
abbrev cL_number : ByteArray := method_3_code
def yL_number : MethodName := ⟨RL, "number", "(LPackedDecimals;III[J)I"⟩
abbrev cL_octet : ByteArray := method_4_code
def yL_octet : MethodName := ⟨RL, "octet", "(LPackedDecimals;IIB)I"⟩
abbrev cL_at : ByteArray := method_5_code
def yL_at : MethodName := ⟨RL, "at", "(LPackedDecimals;II[J)I"⟩
abbrev cL_size : ByteArray := method_6_code
def yL_size : MethodName := ⟨RL, "size", "(LPackedDecimals;I[J)I"⟩
abbrev cL_apply : ByteArray := method_7_code
def yL_apply : MethodName := ⟨RL, "apply", "(LPackedDecimals;IIII[J)I"⟩
abbrev cL_compare : ByteArray := method_8_code
def yL_compare : MethodName := ⟨RL, "compare", "(LPackedDecimals;II[J)I"⟩
abbrev cL_valid : ByteArray := method_9_code
def yL_valid : MethodName := ⟨RL, "valid", "(LPackedDecimals;I[J)I"⟩
abbrev cL_convert : ByteArray := method_10_code
def yL_convert : MethodName := ⟨RL, "convert", "(LPackedDecimals;II[J)I"⟩
abbrev cL_digit : ByteArray := method_11_code
def yL_digit : MethodName := ⟨RL, "digit", "(LPackedDecimals;II[J)I"⟩
abbrev cL_round : ByteArray := method_12_code
def yL_round : MethodName := ⟨RL, "round", "(LPackedDecimals;II[J)I"⟩
abbrev cL_half : ByteArray := method_13_code
def yL_half : MethodName := ⟨RL, "half", "(LPackedDecimals;I[J)I"⟩
abbrev cL_law : ByteArray := code
def yL_law : MethodName := ⟨RL, "law", "([I)Z"⟩
abbrev vwCl : List vw_C := [(RJx00060, TJx00060, 6), (RJxde1cd, TJxde1cd, 6), (RX0, TX0, 4), (RX2, TX2, 3), (RX3, TX3, 2), (RX4, TX4, 5), (RX5, TX5, 1), (RX6, TX6, 6), (RX7, TX7, 0), (RX8, TX8, 8), (RX9, TX9, 14)]
end
section
/-! ===== the words that every method has ===== -/
def aT : List Cond := lw_tbl.filter goodWord
theorem aT_mem {w : Cond} (i : Nat) (h : lw_tbl[i]? = some w) (hg : goodWord w = true) : w ∈ aT := List.mem_filter.mpr ⟨List.mem_of_getElem? h, hg⟩
theorem aT_good : GoodIn aT aT := fun w h => ⟨h, good_of_word (List.mem_filter.mp h).2⟩
def aWs (y : MethodName) (cc : ByteArray) (n : Nat) (ret : Option FieldType) : List Cond := .code y cc n ret :: aT
theorem aWs_good {y : MethodName} {cc : ByteArray} {n : Nat} {ret : Option FieldType} (h : Cond.code y cc n ret ∈ aT) : GoodIn aT (aWs y cc n ret) := fun w hw => (List.mem_cons.mp hw).elim (fun e => by rw [e]; exact aT_good _ h) (aT_good w)
/-! ===== the world: objects and arrays by their addresses ===== -/
abbrev aO : Type := Nat → Option (Nat × List Value)
abbrev aA : Type := Nat → Option (Nat × vp_A)
abbrev aL : Type := List (Option Value)
abbrev aKc : Type := aL → List Value → aO → aA → Nat → Nat → Prop
abbrev aK0 : Type := Nat → aKc
def aSet {α : Type} (f : Nat → Option α) (a : Nat) (e : α) : Nat → Option α := fun b => if b = a then some e else f b
theorem aSet_eq {α : Type} {f : Nat → Option α} {a : Nat} {e : α} : aSet f a e a = some e := if_pos rfl
theorem aSet_ne {α : Type} {f : Nat → Option α} {a b : Nat} {e : α} (h : b ≠ a) : aSet f a e b = f b := if_neg h
theorem aSet_aSet {α : Type} {f : Nat → Option α} {a : Nat} {e e' : α} : aSet (aSet f a e) a e' = aSet f a e' := by
  funext b; simp only [aSet]; split <;> rfl
theorem aSet_comm {α : Type} {f : Nat → Option α} {a b : Nat} {e e' : α} (h : a ≠ b) : aSet (aSet f a e) b e' = aSet (aSet f b e') a e := by
  funext c; simp only [aSet]; split <;> split <;> simp_all
theorem aSet_id {α : Type} {f : Nat → Option α} {a : Nat} {e : α} (h : f a = some e) : aSet f a e = f := by
  funext b; simp only [aSet]; split
  · rename_i hb; rw [hb, h]
  · rfl
def aTy : Nat → FieldType
  | 0 => .int
  | 1 => .byte
  | 2 => .long
  | 3 => .object "PackedDecimals$Numeral"
  | _ => .int
abbrev aG : Type := va_G × (Nat → ClassId)
def aTys (G : aG) : List (ClassId × FieldType) := [(G.2 0, aTy 0), (G.2 1, aTy 1), (G.2 2, aTy 2), (G.2 3, aTy 3)]
theorem aTys_at {G : aG} {t : Nat} (h : t < 4) : (aTys G)[t]? = some (G.2 t, aTy t) := by
  match t, h with
  | 0, _ => rfl
  | 1, _ => rfl
  | 2, _ => rfl
  | 3, _ => rfl
/-- an array: kinds 0 to 3 are made here and may be written; 4 and 5 are int arrays from elsewhere, that are only read -/
def aAt (G : aG) (base a t : Nat) (x : vp_A) (H : Heap) : Prop := (t < 4 ∧ base ≤ a ∧ H[a]? = some (vp_cell (G.2 t) x)) ∨ (4 ≤ t ∧ t < 6 ∧ ∃ (cell : Cell) (f : Nat → Int32), x.2 = .inl f ∧ H[a]? = some cell ∧ cell.cls = G.2 t ∧ (∀ k, cell.vm ≠ .statics k) ∧ cell.vm ≠ .unknown ∧ cell.slots.size = x.1 ∧ ∀ j, j < x.1 → cell.slots[j]? = some (.int (f j)))
theorem aAt.kept {G : aG} {base a t : Nat} {x : vp_A} {H H1 : Heap} (h : aAt G base a t x H) (hq : H1[a]? = H[a]?) : aAt G base a t x H1 := by
  unfold aAt at h ⊢
  rw [hq]; exact h
theorem aAt.lt {G : aG} {base a t : Nat} {x : vp_A} {H : Heap} (h : aAt G base a t x H) : a < H.size := by
  rcases h with ⟨-, -, h⟩ | ⟨-, -, cell, f, -, h, -⟩
  · exact (Array.getElem?_eq_some_iff.mp h).1
  · exact (Array.getElem?_eq_some_iff.mp h).1
theorem aAt.made {G : aG} {base a t : Nat} {x : vp_A} {H : Heap} (h : aAt G base a t x H) (ht : t < 4) : base ≤ a ∧ H[a]? = some (vp_cell (G.2 t) x) := by
  rcases h with ⟨-, h1, h2⟩ | ⟨h, -⟩
  · exact ⟨h1, h2⟩
  · omega
def aRel (G : aG) (base : Nat) (O : aO) (A : aA) (H : Heap) : Prop :=
  base ≤ H.size ∧ (∀ a ci fs, O a = some (ci, fs) → base ≤ a ∧ va_at G.1 vwCl (a, .inr (ci, fs)) H) ∧ ∀ a t x, A a = some (t, x) → aAt G base a t x H
def aKn (G : aG) (U : State) : Prop := va_K G.1 vwCl (aTys G) U ∧ ArrOfT U (G.2 4) .int ∧ ArrOfT U (G.2 5) .int
theorem aKn.moved {G : aG} {u U : State} (hvm : u.vm.Alike U.vm) (h : aKn G u) : aKn G U := ⟨va_K.moved hvm h.1, arrOfT_moved hvm h.2.1, arrOfT_moved hvm h.2.2⟩
def aSt (base tA : Nat) (U : State) (H : Heap) : Prop := va_Z "PackedDecimals$Natural" "TENS" "[I" (.ref tA) (fun q => base ≤ q) U H ∧ vx_Zq Bundle.tN "UNASSIGNED_STACK" Bundle.steD (fun q => base ≤ q) U H ∧ vx_Zq Bundle.tN "SUPPRESSED_SENTINEL" Bundle.listD (fun q => base ≤ q) U H
def aStrs : List (Nat × String) := [(51, "digits below 0"), (129, "no such number"), (132, "no such byte"), (93, "the divisor's whole part is 0")]
def aNst : List (String × Nat × MethodName) := [(RX8, 17, yX5_init), (RX5, 11, yX3_init), (RX8, 24, yX0_init), (RX0, 9, yX3_init), (RX8, 31, yX6_init), (RX6, 11, yX7_init), (RX6, 20, yX3_init), (RX8, 38, yX2_init), (RX2, 9, yX3_init)]
def aXs : List String := ["java/lang/NegativeArraySizeException", "java/lang/ArrayIndexOutOfBoundsException", "java/lang/ArithmeticException"]
/-- the texts, the private constructors of nest mates, the array of numerals, the exceptions that are caught -/
def aStr (U : State) : Prop := (∀ q ∈ aStrs, ∃ a : Nat, vk_R RX8 q.1 q.2 a U) ∧ (∀ q ∈ aNst, va_Nw (.methodLinkNest q.1 q.2.1 q.2.2 "PackedDecimals") U) ∧ va_AO "PackedDecimals$Numeral" U ∧ (∀ n ∈ aXs, va_Nw (.castable n n) U) ∧ va_Nc "java/lang/ArithmeticException" "java/lang/ArrayIndexOutOfBoundsException" U
theorem aSt.moved {base tA : Nat} {u U : State} {H : Heap} (hvm : u.vm.Alike U.vm) (h : aSt base tA u H) : aSt base tA U H := ⟨va_Z.moved hvm h.1, vx_Zq.moved hvm h.2.1, vx_Zq.moved hvm h.2.2⟩
theorem aSt.kept {base tA : Nat} {U : State} {H H1 : Heap} (h : aSt base tA U H) (hq : ∀ a : Nat, a < H.size → ¬ base ≤ a → H1[a]? = H[a]?) : aSt base tA U H1 := ⟨h.1.kept hq, h.2.1.kept hq, h.2.2.kept hq⟩
theorem aStr.warm {s U : State} (hW : s.WarmedH U.vm) (h : aStr s) : aStr U := ⟨fun q hq => (h.1 q hq).elim fun a ha => ⟨a, vk_R.warm hW ha⟩, fun q hq => va_Nw.warmM hW (h.2.1 q hq), h.2.2.1.moved hW.alike, fun n hn => va_Nw.warmC hW (h.2.2.2.1 n hn), h.2.2.2.2.moved hW.alike⟩
def aGood (G : aG) (base tA : Nat) (O : aO) (A : aA) (U : State) : Prop := aRel G base O A U.heap ∧ aKn G U ∧ aSt base tA U U.heap ∧ aStr U
theorem aGood.blind {G : aG} {base tA : Nat} {O : aO} {A : aA} {av : List Value} : FrameBlind (va_Pc av (fun U => aGood G base tA O A U)) := by
  intro a U g mk h
  obtain ⟨h0, h1, h2, h3, h4⟩ := h
  exact ⟨h0, h1, aKn.moved (u := U) (U := U.calling g mk a) (Vm.Alike.refl U.vm) h2, aSt.moved (u := U) (U := U.calling g mk a) (Vm.Alike.refl U.vm) h3, aStr.warm (s := U) (U := U.calling g mk a) (State.WarmedH.refl U) h4⟩
/-! ===== locals ===== -/
def aAs : Nat → aL → List (Nat × Value)
  | _, [] => []
  | n, none :: r => aAs (n + 1) r
  | n, some v :: r => (n, v) :: aAs (n + 1) r
def lget : aL → Nat → Option Value
  | [], _ => none
  | x :: _, 0 => x
  | _ :: r, n + 1 => lget r n
def lkill : Option Value → Option Value
  | some (.long _) => none
  | some (.double _) => none
  | x => x
def lput1 : aL → Nat → Value → aL
  | [], _, _ => []
  | _ :: r, 0, v => some v :: r
  | x :: r, 1, v => lkill x :: lput1 r 0 v
  | x :: r, n + 2, v => x :: lput1 r (n + 1) v
def ltail : aL → aL
  | [] => []
  | _ :: r => none :: r
def lput2 : aL → Nat → Value → aL
  | [], _, _ => []
  | _ :: r, 0, v => some v :: ltail r
  | x :: r, 1, v => lkill x :: lput2 r 0 v
  | x :: r, n + 2, v => x :: lput2 r (n + 1) v
theorem aAs_ge : ∀ (L : aL) (n : Nat) (q : Nat × Value), q ∈ aAs n L → n ≤ q.1
  | [], _, _, h => by cases h
  | none :: r, n, q, h => Nat.le_of_succ_le (aAs_ge r (n + 1) q h)
  | some v :: r, n, q, h => by
    rcases List.mem_cons.mp h with h | h
    · rw [h]; exact Nat.le_refl _
    · exact Nat.le_of_succ_le (aAs_ge r (n + 1) q h)
theorem aAs_get : ∀ (L : aL) (n i : Nat) (v : Value), lget L i = some v → (n + i, v) ∈ aAs n L
  | [], _, _, _, h => by cases h
  | x :: r, n, 0, v, h => by
    have h : x = some v := h
    rw [h]; exact List.mem_cons_self
  | none :: r, n, i + 1, v, h => by
    have h9 := aAs_get r (n + 1) i v h
    rw [show n + (i + 1) = n + 1 + i by omega]; exact h9
  | some w :: r, n, i + 1, v, h => by
    have h9 := aAs_get r (n + 1) i v h
    rw [show n + (i + 1) = n + 1 + i by omega]; exact List.mem_cons_of_mem _ h9
theorem lkill_some {x : Option Value} {v : Value} (h : lkill x = some v) : x = some v ∧ v.category ≠ 2 := by
  cases x with
  | none => cases h
  | some w => cases w <;> simp [lkill] at h <;> subst h <;> simp [Value.category]
theorem aAs_cons {x : Option Value} {r : aL} {n : Nat} {q : Nat × Value} : q ∈ aAs n (x :: r) ↔ (x = some q.2 ∧ q.1 = n) ∨ q ∈ aAs (n + 1) r := by
  cases x with
  | none => simp [aAs]
  | some v =>
    simp only [aAs, List.mem_cons]
    constructor
    · rintro (h | h)
      · left; rw [h]; exact ⟨rfl, rfl⟩
      · right; exact h
    · rintro (⟨h1, h2⟩ | h)
      · left; cases h1; exact Prod.ext h2 rfl
      · right; exact h
theorem aAs_put1 : ∀ (L : aL) (n i : Nat) (v : Value) (q : Nat × Value), q ∈ aAs n (lput1 L i v) → q = (n + i, v) ∨ (q ∈ aAs n L ∧ q.1 ≠ n + i ∧ ¬ (q.1 + 1 = n + i ∧ q.2.category = 2))
  | [], _, _, _, _, h => by cases h
  | x :: r, n, 0, v, q, h => by
    rcases aAs_cons.mp h with ⟨h1, h2⟩ | h
    · left; cases h1; exact Prod.ext h2 rfl
    · right
      have hg := aAs_ge r (n + 1) q h
      exact ⟨aAs_cons.mpr (Or.inr h), by omega, by omega⟩
  | x :: r, n, 1, v, q, h => by
    rcases aAs_cons.mp h with ⟨h1, h2⟩ | h
    · right
      obtain ⟨k1, k2⟩ := lkill_some h1
      exact ⟨aAs_cons.mpr (Or.inl ⟨k1, h2⟩), by omega, fun z => k2 z.2⟩
    · rcases aAs_put1 r (n + 1) 0 v q h with h | ⟨h1, h2, h3⟩
      · left; exact h
      · right; exact ⟨aAs_cons.mpr (Or.inr h1), h2, h3⟩
  | x :: r, n, i + 2, v, q, h => by
    rcases aAs_cons.mp h with ⟨h1, h2⟩ | h
    · right
      exact ⟨aAs_cons.mpr (Or.inl ⟨h1, h2⟩), by omega, by omega⟩
    · have e : n + 1 + (i + 1) = n + (i + 2) := by omega
      rcases aAs_put1 r (n + 1) (i + 1) v q h with h | ⟨h1, h2, h3⟩
      · left; rw [h, e]
      · right; exact ⟨aAs_cons.mpr (Or.inr h1), by omega, by rw [← e]; exact h3⟩
theorem aAs_put2 : ∀ (L : aL) (n i : Nat) (v : Value) (q : Nat × Value), q ∈ aAs n (lput2 L i v) → q = (n + i, v) ∨ (q ∈ aAs n L ∧ q.1 ≠ n + i ∧ q.1 ≠ n + i + 1 ∧ ¬ (q.1 + 1 = n + i ∧ q.2.category = 2))
  | [], _, _, _, _, h => by cases h
  | x :: r, n, 0, v, q, h => by
    rcases aAs_cons.mp h with ⟨h1, h2⟩ | h
    · left; cases h1; exact Prod.ext h2 rfl
    · cases r with
      | nil => cases h
      | cons y r =>
        rcases aAs_cons.mp h with ⟨h1, h2⟩ | h
        · cases h1
        · right
          have hg := aAs_ge r (n + 1 + 1) q h
          exact ⟨aAs_cons.mpr (Or.inr (aAs_cons.mpr (Or.inr h))), by omega, by omega, by omega⟩
  | x :: r, n, 1, v, q, h => by
    rcases aAs_cons.mp h with ⟨h1, h2⟩ | h
    · right
      obtain ⟨k1, k2⟩ := lkill_some h1
      exact ⟨aAs_cons.mpr (Or.inl ⟨k1, h2⟩), by omega, by omega, fun z => k2 z.2⟩
    · rcases aAs_put2 r (n + 1) 0 v q h with h | ⟨h1, h2, h3, h4⟩
      · left; exact h
      · right; exact ⟨aAs_cons.mpr (Or.inr h1), h2, h3, h4⟩
  | x :: r, n, i + 2, v, q, h => by
    rcases aAs_cons.mp h with ⟨h1, h2⟩ | h
    · right
      exact ⟨aAs_cons.mpr (Or.inl ⟨h1, h2⟩), by omega, by omega, by omega⟩
    · have e : n + 1 + (i + 1) = n + (i + 2) := by omega
      rcases aAs_put2 r (n + 1) (i + 1) v q h with h | ⟨h1, h2, h3, h4⟩
      · left; rw [h, e]
      · right; exact ⟨aAs_cons.mpr (Or.inr h1), by omega, by omega, by rw [← e]; exact h4⟩
theorem lv_put1 {ls : Array Slot} {nL i : Nat} {L : aL} {v : Value} (h : lv_has ls nL ((i, v) :: (aAs 0 L).filter (fun q => !(q.1 == i) && !(q.1 + 1 == i && q.2.category == 2)))) : lv_has ls nL (aAs 0 (lput1 L i v)) := by
  refine ⟨h.1, h.2.1, fun q hq => ?_⟩
  rcases aAs_put1 L 0 i v q hq with e | ⟨h1, h2, h3⟩
  · rw [e, Nat.zero_add]; exact h.2.2 (i, v) List.mem_cons_self
  · refine h.2.2 q (List.mem_cons_of_mem _ (List.mem_filter.mpr ⟨h1, ?_⟩))
    simp only [Nat.zero_add] at h2 h3
    simp [h2]
    omega
theorem lv_put2 {ls : Array Slot} {nL i : Nat} {L : aL} {v : Value} (h : lv_has ls nL ((i, v) :: (aAs 0 L).filter (fun q => !(q.1 == i) && (!(q.1 == i + 1) && !(q.1 + 1 == i && q.2.category == 2))))) : lv_has ls nL (aAs 0 (lput2 L i v)) := by
  refine ⟨h.1, h.2.1, fun q hq => ?_⟩
  rcases aAs_put2 L 0 i v q hq with e | ⟨h1, h2, h3, h4⟩
  · rw [e, Nat.zero_add]; exact h.2.2 (i, v) List.mem_cons_self
  · refine h.2.2 q (List.mem_cons_of_mem _ (List.mem_filter.mpr ⟨h1, ?_⟩))
    simp only [Nat.zero_add] at h2 h3 h4
    simp [h2, h3]
    omega
theorem lv_lget {ls : Array Slot} {nL i : Nat} {L : aL} {v : Value} (h : lv_has ls nL (aAs 0 L)) (hi : lget L i = some v) : ls[i]? = some (.val v) := by
  have h9 := h.2.2 _ (aAs_get L 0 i v hi)
  simpa using h9
end
section
/-! ===== what one instruction asks: a calculus over the abstract world ===== -/
abbrev aIn : Type := Instr × Nat × Nat × Nat × List Nat
abbrev aPost : Type := Option Value → aO → aA → Prop
abbrev aPostX : Type := String → aO → aA → Prop
/-- calls, the return, an exception that comes out of a call, a throw, (TENS, the answer's type, the room for cells and slots) -/
abbrev aE : Type := (Instr → List Value → aO → aA → Nat → Nat → Nat → Nat → aPost → aPostX → Prop) × (Option Value → aO → aA → Nat → Nat → Prop) × (Nat → String → aKc) × (Nat → Nat → aKc) × Nat × Option FieldType × Nat × Nat
def eCall (E : aE) := E.1
def eRet (E : aE) := E.2.1
def eExc (E : aE) := E.2.2.1
def eThr (E : aE) := E.2.2.2.1
def eTA (E : aE) := E.2.2.2.2.1
def eRt (E : aE) := E.2.2.2.2.2.1
def eRc (E : aE) := E.2.2.2.2.2.2.1
def eRs (E : aE) := E.2.2.2.2.2.2.2
def aV : Nat → Nat → Int32
  | x, 0 => nI x
  | x, _ + 1 => -nI x
def aVl : Nat → Nat → Int64
  | x, 0 => lN x
  | x, _ + 1 => -lN x
def aNth : List Value → Nat → Option Value
  | [], _ => none
  | v :: _, 0 => some v
  | _ :: r, n + 1 => aNth r n
def aPut : List Value → Nat → Value → List Value
  | [], _, _ => []
  | _ :: r, 0, v => v :: r
  | w :: r, n + 1, v => w :: aPut r n v
/-- may the field of this kind (0 int, 1 boolean, 2 a reference) hold it -/
def aFz : Nat → Value → Prop
  | 0, .int _ => True
  | 1, .int v => v = 0 ∨ v = 1
  | 2, .ref _ => True
  | 2, .null => True
  | _, _ => False
def aBl : List Nat → List Value
  | [] => []
  | 2 :: r => .null :: aBl r
  | _ :: r => .int 0 :: aBl r
/-- the condition of a jump -/
def aC0 : ClassFile.Cond → Int32 → Prop
  | .eq, x => x = 0
  | .ne, x => ¬ x = 0
  | .lt, x => x < 0
  | .ge, x => 0 ≤ x
  | .gt, x => 0 < x
  | .le, x => x ≤ 0
def aC2 : ClassFile.Cond → Int32 → Int32 → Prop
  | .eq, x, y => x = y
  | .ne, x, y => ¬ x = y
  | .lt, x, y => x < y
  | .ge, x, y => y ≤ x
  | .gt, x, y => y < x
  | .le, x, y => x ≤ y
/-- a switch: the places from lo on, else d -/
def aSw (v : Int32) (J : Nat → Prop) (d l0 : Nat) : Nat → List Nat → Prop
  | lo, [] => v.toInt < (l0 : Int) ∨ (lo : Int) ≤ v.toInt → J d
  | lo, t :: r => (v = nI lo → J t) ∧ aSw v J d l0 (lo + 1) r
def aCat1 : Value → Prop
  | .long _ => False
  | .double _ => False
  | _ => True
def wpi (E : aE) (jmp nxt : aK0) (i : Instr) (x y z : Nat) (ts : List Nat) (pc : Nat) (L : aL) (st : List Value) (O : aO) (A : aA) (nc ns : Nat) : Prop :=
  match i with
  | .iconst _ => nxt (pc + 1) L (.int (aV x y) :: st) O A nc ns
  | .bipush _ => nxt (pc + 2) L (.int (aV x y) :: st) O A nc ns
  | .sipush _ => nxt (pc + 3) L (.int (aV x y) :: st) O A nc ns
  | .ldc _ => nxt (pc + 2) L (.int (aV x y) :: st) O A nc ns
  | .lconst _ => nxt (pc + 1) L (.long (aVl x y) :: st) O A nc ns
  | .ldc2_w _ => nxt (pc + 3) L (.long (aVl x y) :: st) O A nc ns
  | .iload_n _ => (match lget L x with | some (.int v) => nxt (pc + 1) L (.int v :: st) O A nc ns | _ => False)
  | .iload _ => (match lget L x with | some (.int v) => nxt (pc + 2) L (.int v :: st) O A nc ns | _ => False)
  | .lload_n _ => (match lget L x with | some (.long v) => nxt (pc + 1) L (.long v :: st) O A nc ns | _ => False)
  | .lload _ => (match lget L x with | some (.long v) => nxt (pc + 2) L (.long v :: st) O A nc ns | _ => False)
  | .aload_n _ => (match lget L x with | some (.ref v) => nxt (pc + 1) L (.ref v :: st) O A nc ns | _ => False)
  | .aload _ => (match lget L x with | some (.ref v) => nxt (pc + 2) L (.ref v :: st) O A nc ns | _ => False)
  | .istore_n _ => (match st with | .int v :: r => nxt (pc + 1) (lput1 L x (.int v)) r O A nc ns | _ => False)
  | .istore _ => (match st with | .int v :: r => nxt (pc + 2) (lput1 L x (.int v)) r O A nc ns | _ => False)
  | .astore_n _ => (match st with | .ref v :: r => nxt (pc + 1) (lput1 L x (.ref v)) r O A nc ns | _ => False)
  | .astore _ => (match st with | .ref v :: r => nxt (pc + 2) (lput1 L x (.ref v)) r O A nc ns | _ => False)
  | .lstore_n _ => (match st with | .long v :: r => nxt (pc + 1) (lput2 L x (.long v)) r O A nc ns | _ => False)
  | .lstore _ => (match st with | .long v :: r => nxt (pc + 2) (lput2 L x (.long v)) r O A nc ns | _ => False)
  | .iinc _ c => (match lget L x with | some (.int v) => nxt (pc + 3) (lput1 L x (.int (v + Int32.ofInt c))) st O A nc ns | _ => False)
  | .iadd => (match st with | .int b :: .int a :: r => nxt (pc + 1) L (.int (a + b) :: r) O A nc ns | _ => False)
  | .isub => (match st with | .int b :: .int a :: r => nxt (pc + 1) L (.int (a - b) :: r) O A nc ns | _ => False)
  | .imul => (match st with | .int b :: .int a :: r => nxt (pc + 1) L (.int (a * b) :: r) O A nc ns | _ => False)
  | .iand => (match st with | .int b :: .int a :: r => nxt (pc + 1) L (.int (a &&& b) :: r) O A nc ns | _ => False)
  | .ior => (match st with | .int b :: .int a :: r => nxt (pc + 1) L (.int (a ||| b) :: r) O A nc ns | _ => False)
  | .idiv => (match st with | .int b :: .int a :: r => ¬ b = 0 ∧ nxt (pc + 1) L (.int (a / b) :: r) O A nc ns | _ => False)
  | .irem => (match st with | .int b :: .int a :: r => ¬ b = 0 ∧ nxt (pc + 1) L (.int (a - a / b * b) :: r) O A nc ns | _ => False)
  | .ishl => (match st with | .int b :: .int a :: r => nxt (pc + 1) L (.int (a <<< (b &&& 31)) :: r) O A nc ns | _ => False)
  | .ishr => (match st with | .int b :: .int a :: r => nxt (pc + 1) L (.int (a >>> (b &&& 31)) :: r) O A nc ns | _ => False)
  | .ineg => (match st with | .int a :: r => nxt (pc + 1) L (.int (-a) :: r) O A nc ns | _ => False)
  | .lneg => (match st with | .long a :: r => nxt (pc + 1) L (.long (-a) :: r) O A nc ns | _ => False)
  | .ladd => (match st with | .long b :: .long a :: r => nxt (pc + 1) L (.long (a + b) :: r) O A nc ns | _ => False)
  | .lsub => (match st with | .long b :: .long a :: r => nxt (pc + 1) L (.long (a - b) :: r) O A nc ns | _ => False)
  | .lmul => (match st with | .long b :: .long a :: r => nxt (pc + 1) L (.long (a * b) :: r) O A nc ns | _ => False)
  | .land => (match st with | .long b :: .long a :: r => nxt (pc + 1) L (.long (a &&& b) :: r) O A nc ns | _ => False)
  | .lor => (match st with | .long b :: .long a :: r => nxt (pc + 1) L (.long (a ||| b) :: r) O A nc ns | _ => False)
  | .ldiv => (match st with | .long b :: .long a :: r => ¬ b = 0 ∧ nxt (pc + 1) L (.long (a / b) :: r) O A nc ns | _ => False)
  | .lrem => (match st with | .long b :: .long a :: r => ¬ b = 0 ∧ nxt (pc + 1) L (.long (a - a / b * b) :: r) O A nc ns | _ => False)
  | .lshl => (match st with | .int b :: .long a :: r => nxt (pc + 1) L (.long (a <<< (b.toInt64 &&& 63)) :: r) O A nc ns | _ => False)
  | .lshr => (match st with | .int b :: .long a :: r => nxt (pc + 1) L (.long (a >>> (b.toInt64 &&& 63)) :: r) O A nc ns | _ => False)
  | .lushr => (match st with | .int b :: .long a :: r => nxt (pc + 1) L (.long ((a.toUInt64 >>> (b.toInt64.toUInt64 &&& Int64.toUInt64 63)).toInt64) :: r) O A nc ns | _ => False)
  | .lcmp => (match st with | .long b :: .long a :: r => nxt (pc + 1) L (.int (lg_cmp a b) :: r) O A nc ns | _ => False)
  | .i2l => (match st with | .int a :: r => nxt (pc + 1) L (.long a.toInt64 :: r) O A nc ns | _ => False)
  | .l2i => (match st with | .long a :: r => nxt (pc + 1) L (.int a.toInt32 :: r) O A nc ns | _ => False)
  | .i2b => (match st with | .int a :: r => nxt (pc + 1) L (.int a.toInt8.toInt32 :: r) O A nc ns | _ => False)
  | .i2s => (match st with | .int a :: r => nxt (pc + 1) L (.int a.toInt16.toInt32 :: r) O A nc ns | _ => False)
  | .dup => (match st with | v :: r => aCat1 v ∧ nxt (pc + 1) L (v :: v :: r) O A nc ns | _ => False)
  | .pop => (match st with | v :: r => aCat1 v ∧ nxt (pc + 1) L r O A nc ns | _ => False)
  | .dup2 => (match st with | v :: w :: r => aCat1 v ∧ aCat1 w ∧ nxt (pc + 1) L (v :: w :: v :: w :: r) O A nc ns | _ => False)
  | .ifCond c _ => (match st with | .int v :: r => (aC0 c v → jmp x L r O A nc ns) ∧ (¬ aC0 c v → jmp (pc + 3) L r O A nc ns) | _ => False)
  | .if_icmp c _ => (match st with | .int w :: .int v :: r => (aC2 c v w → jmp x L r O A nc ns) ∧ (¬ aC2 c v w → jmp (pc + 3) L r O A nc ns) | _ => False)
  | .goto _ => jmp x L st O A nc ns
  | .tableswitch _ _ _ _ => (match st with | .int v :: r => aSw v (fun t => jmp t L r O A nc ns) y x x ts | _ => False)
  | .getfield _ => (match st with | .ref a :: r => (match O a with | some (ci, fs) => ci = x ∧ (match aNth fs y with | some v => nxt (pc + 3) L (v :: r) O A nc ns | none => False) | none => False) | _ => False)
  | .putfield _ => (match st with | v :: .ref a :: r => (match O a with | some (ci, fs) => ci = x ∧ y < fs.length ∧ aFz z v ∧ nxt (pc + 3) L r (aSet O a (ci, aPut fs y v)) A nc ns | none => False) | _ => False)
  | .getstatic _ => nxt (pc + 3) L (.ref (eTA E) :: st) O A nc ns
  | .iaload => (match st with | .int i :: .ref a :: r => (match A a with | some (t, n, .inl f) => (t = 0 ∨ 4 ≤ t) ∧ vp_in i n ∧ nxt (pc + 1) L (.int (f i.toNatClampNeg) :: r) O A nc ns | _ => False) | _ => False)
  | .baload => (match st with | .int i :: .ref a :: r => (match A a with | some (t, n, .inl f) => t = 1 ∧ vp_in i n ∧ nxt (pc + 1) L (.int (f i.toNatClampNeg) :: r) O A nc ns | _ => False) | _ => False)
  | .laload => (match st with | .int i :: .ref a :: r => (match A a with | some (t, n, .inr (.inl f)) => t = 2 ∧ vp_in i n ∧ nxt (pc + 1) L (.long (f i.toNatClampNeg) :: r) O A nc ns | _ => False) | _ => False)
  | .aaload => (match st with | .int i :: .ref a :: r => (match A a with | some (t, n, .inr (.inr (.inr (.inr f)))) => t = 3 ∧ vp_in i n ∧ nxt (pc + 1) L (va_rf (f i.toNatClampNeg) :: r) O A nc ns | _ => False) | _ => False)
  | .iastore => (match st with | .int v :: .int i :: .ref a :: r => (match A a with | some (t, n, .inl f) => t = 0 ∧ vp_in i n ∧ nxt (pc + 1) L r O (aSet A a (t, n, .inl (upd f i.toNatClampNeg v))) nc ns | _ => False) | _ => False)
  | .bastore => (match st with | .int v :: .int i :: .ref a :: r => (match A a with | some (t, n, .inl f) => t = 1 ∧ vp_in i n ∧ nxt (pc + 1) L r O (aSet A a (t, n, .inl (upd f i.toNatClampNeg (vp_nar .byte v)))) nc ns | _ => False) | _ => False)
  | .lastore => (match st with | .long v :: .int i :: .ref a :: r => (match A a with | some (t, n, .inr (.inl f)) => t = 2 ∧ vp_in i n ∧ nxt (pc + 1) L r O (aSet A a (t, n, .inr (.inl (vp_updL f i.toNatClampNeg v)))) nc ns | _ => False) | _ => False)
  | .aastore => (match st with | .ref v :: .int i :: .ref a :: r => (match A a with | some (t, n, .inr (.inr (.inr (.inr f)))) => t = 3 ∧ vp_in i n ∧ (∃ fs, O v = some (5, fs)) ∧ nxt (pc + 1) L r O (aSet A a (t, n, .inr (.inr (.inr (.inr (va_up f i.toNatClampNeg (some v))))))) nc ns | _ => False) | _ => False)
  | .arraylength => (match st with | .ref a :: r => (match A a with | some (_, n, _) => nxt (pc + 1) L (.int (nI n) :: r) O A nc ns | _ => False) | _ => False)
  | .invokevirtual _ => x ≤ st.length ∧ ∃ (Post : aPost) (PostX : aPostX) (mc ms : Nat), eCall E i (st.take x).reverse O A nc ns mc ms Post PostX ∧ (st.drop x).length ≤ 4 ∧ (∀ v O' A', Post v O' A' → nxt (pc + 3) L (v.toList ++ st.drop x) O' A' (nc + mc) (ns + ms)) ∧ ∀ n O' A', PostX n O' A' → eExc E pc n L (st.drop x) O' A' (nc + mc) (ns + ms)
  | .invokestatic _ => x ≤ st.length ∧ ∃ (Post : aPost) (PostX : aPostX) (mc ms : Nat), eCall E i (st.take x).reverse O A nc ns mc ms Post PostX ∧ (st.drop x).length ≤ 4 ∧ (∀ v O' A', Post v O' A' → nxt (pc + 3) L (v.toList ++ st.drop x) O' A' (nc + mc) (ns + ms)) ∧ ∀ n O' A', PostX n O' A' → eExc E pc n L (st.drop x) O' A' (nc + mc) (ns + ms)
  | .invokespecial _ => x ≤ st.length ∧ ∃ (Post : aPost) (PostX : aPostX) (mc ms : Nat), eCall E i (st.take x).reverse O A nc ns mc ms Post PostX ∧ (st.drop x).length ≤ 4 ∧ (∀ v O' A', Post v O' A' → nxt (pc + 3) L (v.toList ++ st.drop x) O' A' (nc + mc) (ns + ms)) ∧ ∀ n O' A', PostX n O' A' → eExc E pc n L (st.drop x) O' A' (nc + mc) (ns + ms)
  | .new _ => (match z with
    | 0 => nc + 1 ≤ eRc E ∧ ns + y ≤ eRs E ∧ ∀ q : Nat, (∀ a, O a ≠ none → a < q) → (∀ a, A a ≠ none → a < q) → nxt (pc + 3) L (.ref q :: st) (aSet O q (x, aBl ts)) A (nc + 1) (ns + y)
    | _ => eThr E z pc L st O A nc ns)
  | .newarray _ => (match st with | .int n :: r => ∃ N : Nat, n = nI N ∧ N ≤ 65536 ∧ nc + 1 ≤ eRc E ∧ ns + N ≤ eRs E ∧ ∀ q : Nat, (∀ a, O a ≠ none → a < q) → (∀ a, A a ≠ none → a < q) → nxt (pc + 2) L (.ref q :: r) O (aSet A q (x, N, if x = 2 then .inr (.inl fun _ => 0) else .inl fun _ => 0)) (nc + 1) (ns + N) | _ => False)
  | .anewarray _ => (match st with | .int n :: r => ∃ N : Nat, n = nI N ∧ N ≤ 65536 ∧ nc + 1 ≤ eRc E ∧ ns + N ≤ eRs E ∧ ∀ q : Nat, (∀ a, O a ≠ none → a < q) → (∀ a, A a ≠ none → a < q) → nxt (pc + 3) L (.ref q :: r) O (aSet A q (3, N, .inr (.inr (.inr (.inr fun _ => none))))) (nc + 1) (ns + N) | _ => False)
  | .ireturn => (match st with | [.int v] => (∃ ty, eRt E = some ty ∧ narrow ty (.int v) = .int v) ∧ eRet E (some (.int v)) O A nc ns | _ => False)
  | .lreturn => (match st with | [.long v] => eRt E = some .long ∧ eRet E (some (.long v)) O A nc ns | _ => False)
  | .areturn => (match st with | [.ref v] => (∃ n, eRt E = some (.object n)) ∧ eRet E (some (.ref v)) O A nc ns | _ => False)
  | .return_ => (match st with | [] => eRt E = none ∧ eRet E none O A nc ns | _ => False)
  | _ => False
def wpl (E : aE) (jmp : aK0) : List aIn → aK0
  | [] => jmp
  | (i, x, y, z, ts) :: r => fun pc L st O A nc ns => wpi E jmp (wpl E jmp r) i x y z ts pc L st O A nc ns
def wp (E : aE) (B : Nat → Option (List aIn)) (K : Nat → Option aKc) : Nat → aK0
  | 0 => fun _ _ _ _ _ _ _ => False
  | n + 1 => fun pc L st O A nc ns => match K pc with
    | some P => P L st O A nc ns
    | none => (match B pc with | some is => wpl E (wp E B K n) is pc L st O A nc ns | none => False)
/-- from a block's start, even where it is a cut -/
def wp1 (E : aE) (B : Nat → Option (List aIn)) (K : Nat → Option aKc) (n : Nat) : aK0 := fun pc L st O A nc ns => match B pc with | some is => wpl E (wp E B K n) is pc L st O A nc ns | none => False
end
section
/-! ===== the calculus is sound: each clause by a row of the kit ===== -/
/-- a field by its pool number: number ci's field k of the tables -/
def aFl (own : String) (idx ci k z : Nat) : Prop := ∃ (C : String) (T : u_T) (N : Nat) (ty : Nat → FieldType), vwCl[ci]? = some (C, T, N) ∧ k < N ∧ Cond.fieldLink own idx (T k).1 (T k).2.1 (T k).2.2.1 ∈ aT ∧ (∀ w ∈ u_ws C T N, w ∈ aT) ∧ (∀ j, j < N → parseFieldDescriptor (T j).2.2.1 = some (ty j)) ∧ (∀ a, a < N → ∀ b, b < N → a ≠ b → (T a).2.1 ≠ (T b).2.1) ∧
  ((z = 0 ∧ ty k = .int) ∨ (z = 1 ∧ ty k = .boolean) ∨ (z = 2 ∧ ((∃ n, ty k = .object n) ∨ ∃ t, ty k = .array t)))
/-- a class by its pool number -/
def aCl (own : String) (idx ci n : Nat) (ts : List Nat) : Prop := ∃ (C : String) (T : u_T) (ty : Nat → FieldType), vwCl[ci]? = some (C, T, n) ∧ Cond.classLink own idx C ∈ aT ∧ Cond.instantiable C n ∈ aT ∧ Cond.initialized C ∈ aT ∧ (∀ w ∈ u_ws C T n, w ∈ aT) ∧ (∀ j, j < n → parseFieldDescriptor (T j).2.2.1 = some (ty j)) ∧ ∀ j, j < n → defaultValue (ty j) = vp_V (aBl ts) j
def aLen : Instr → Nat
  | .bipush _ => 2 | .sipush _ => 3 | .ldc _ => 2 | .ldc2_w _ => 3 | .iload _ => 2 | .lload _ => 2 | .aload _ => 2 | .istore _ => 2 | .astore _ => 2 | .lstore _ => 2 | .iinc _ _ => 3
  | .ifCond _ _ => 3 | .if_icmp _ _ => 3 | .goto _ => 3 | .getfield _ => 3 | .putfield _ => 3 | .getstatic _ => 3 | .invokevirtual _ => 3 | .invokestatic _ => 3 | .invokespecial _ => 3 | .new _ => 3 | .newarray _ => 2 | .anewarray _ => 3
  | _ => 1
def aTg (pc : Nat) : List Int → List Nat → Prop
  | [], [] => True
  | o :: r, t :: r' => (pc : Int) + o = (t : Int) ∧ aTg pc r r'
  | _, _ => False
/-- what an entry's numbers must be -/
def aEx (own : String) (nL : Nat) (ini : Bool) (pc : Nat) (i : Instr) (x y z : Nat) (ts : List Nat) : Prop :=
  match i with
  | .iconst n => Int32.ofInt n = aV x y
  | .bipush n => (Int8.ofInt n).toInt32 = aV x y
  | .sipush n => (Int16.ofInt n).toInt32 = aV x y
  | .ldc idx => Cond.constant own idx (aV x y) ∈ aT
  | .lconst n => Int64.ofNat (n : Nat) = aVl x y
  | .ldc2_w idx => Cond.constantLong own idx (aVl x y) ∈ aT
  | .iload_n k => (k : Nat) = x
  | .lload_n k => (k : Nat) = x
  | .aload_n k => (k : Nat) = x
  | .iload k => k = x
  | .lload k => k = x
  | .aload k => k = x
  | .istore_n k => (k : Nat) = x ∧ x < nL
  | .astore_n k => (k : Nat) = x ∧ x < nL
  | .lstore_n k => (k : Nat) = x ∧ x + 1 < nL
  | .istore k => k = x ∧ x < nL
  | .astore k => k = x ∧ x < nL
  | .lstore k => k = x ∧ x + 1 < nL
  | .iinc k _ => k = x ∧ x < nL
  | .ifCond _ off => (pc : Int) + off = (x : Int)
  | .if_icmp _ off => (pc : Int) + off = (x : Int)
  | .goto off => (pc : Int) + off = (x : Int)
  | .tableswitch d lo hi offs => (pc : Int) + d = (y : Int) ∧ lo = (x : Int) ∧ hi + 1 = (x : Int) + ts.length ∧ x + ts.length < 65536 ∧ aTg pc offs.toList ts
  | .getfield idx => aFl own idx x y z
  | .putfield idx => aFl own idx x y z ∧ ∃ (C : String) (T : u_T) (N : Nat), vwCl[x]? = some (C, T, N) ∧ ((T y).2.2.2 = false ∨ (ini = true ∧ (T y).1 = own))
  | .getstatic idx => Cond.fieldLink own idx "PackedDecimals$Natural" "TENS" "[I" ∈ aT
  | .new idx => z = 0 → aCl own idx x y ts
  | .newarray ty => x < 3 ∧ newarray.typeOf ty = aTy x ∧ Cond.arrayClass (newarray.typeOf ty) ∈ aT
  | .anewarray idx => Cond.classLink own idx "PackedDecimals$Numeral" ∈ aT
  | _ => True
def aBlk (own : String) (cc : ByteArray) (nL : Nat) (ini : Bool) : Nat → List aIn → Prop
  | _, [] => True
  | pc, (i, x, y, z, ts) :: r => (∃ n, decode cc pc = .ok (i, n) ∧ (n = aLen i ∨ ∃ a b c d, i = .tableswitch a b c d)) ∧ aEx own nL ini pc i x y z ts ∧ aBlk own cc nL ini (pc + aLen i) r
section SND
variable {p : Program} {l : Launch} {e : Env} {R : Room} {s : State} {m : MethodId} {args : Array Value} {below : List Frame} {meth : Method} {c : Code} {Q : State → Prop} {G : aG} {base tA : Nat} {own : String} {cc : ByteArray} {nL : Nat} {ini : Bool}
/-- the machine at a place with this abstract world comes to Q -/
def aW (p : Program) (l : Launch) (e : Env) (R : Room) (s : State) (m : MethodId) (args : Array Value) (below : List Frame) (meth : Method) (c : Code) (Q : State → Prop) (G : aG) (base nL : Nat) : aK0 := fun pc L st O A nc ns =>
  ∀ (H : Heap) (locs : List Loc) (ls : Array Slot), aRel G base O A H → va_S (fun q => base ≤ q) s.heap H locs → lv_has ls nL (aAs 0 L) → W p l e R s m args below meth c H locs nc ns Q (F0 m pc ls st)
/-- what holds in a method's body -/
def aCx (G : aG) (base tA : Nat) (own : String) (cc : ByteArray) (nL : Nat) (ini : Bool) (p : Program) (s : State) (m : MethodId) (args : Array Value) (meth : Method) (c : Code) : Prop :=
  p.tables.exec = Jvm.exec ∧ c.code = cc ∧ c.maxLocals = nL ∧ s.vm.findClass own = some m.cls ∧ (∀ w ∈ aT, w.before args s = true) ∧ aKn G s ∧ aSt base tA s s.heap ∧ aStr s ∧ (ini = true → meth.name = "<init>") ∧ base ≤ s.heap.size ∧ meth.locks = false
theorem aRel.obj {G : aG} {base : Nat} {O : aO} {A : aA} {H H' : Heap} {a ci : Nat} {fs fs' : List Value} (h : aRel G base O A H) (ha : O a = some (ci, fs)) (z : H'.size = H.size) (oq : ∀ q : Nat, q ≠ a → H'[q]? = H[q]?) (hn : va_at G.1 vwCl (a, .inr (ci, fs')) H') (hA : ∀ t x, A a ≠ some (t, x)) : aRel G base (aSet O a (ci, fs')) A H' := by
  refine ⟨by rw [z]; exact h.1, fun b cj gs hb => ?_, fun b t x hb => ?_⟩
  · by_cases e : b = a
    · rw [e, aSet_eq] at hb
      cases hb
      rw [e]
      exact ⟨(h.2.1 a ci fs ha).1, hn⟩
    · rw [aSet_ne e] at hb
      exact ⟨(h.2.1 b cj gs hb).1, (h.2.1 b cj gs hb).2.kept (oq b e)⟩
  · have e : b ≠ a := fun e => hA t x (by rw [← e]; exact hb)
    exact (h.2.2 b t x hb).kept (oq b e)
theorem aRel.arr {G : aG} {base : Nat} {O : aO} {A : aA} {H H' : Heap} {a t : Nat} {x x' : vp_A} (h : aRel G base O A H) (ha : A a = some (t, x)) (z : H'.size = H.size) (oq : ∀ q : Nat, q ≠ a → H'[q]? = H[q]?) (ht : t < 4) (hn : H'[a]? = some (vp_cell (G.2 t) x')) (hO : ∀ ci fs, O a ≠ some (ci, fs)) : aRel G base O (aSet A a (t, x')) H' := by
  refine ⟨by rw [z]; exact h.1, fun b cj gs hb => ?_, fun b u y hb => ?_⟩
  · have e : b ≠ a := fun e => hO cj gs (by rw [← e]; exact hb)
    exact ⟨(h.2.1 b cj gs hb).1, (h.2.1 b cj gs hb).2.kept (oq b e)⟩
  · by_cases e : b = a
    · rw [e, aSet_eq] at hb
      cases hb
      rw [e]
      exact Or.inl ⟨ht, ((h.2.2 a t x ha).made ht).1, hn⟩
    · rw [aSet_ne e] at hb
      exact (h.2.2 b u y hb).kept (oq b e)
end SND
end
section
section SND2
variable {p : Program} {l : Launch} {e : Env} {R : Room} {s : State} {m : MethodId} {args : Array Value} {below : List Frame} {meth : Method} {c : Code} {Q : State → Prop} {G : aG} {base tA : Nat} {own : String} {cc : ByteArray} {nL : Nat} {ini : Bool}
variable {pc : Nat} {L : aL} {st : List Value} {O : aO} {A : aA} {nc ns : Nat} {H : Heap}
theorem aRel.apart (hK : aKn G s) (h : aRel G base O A H) {a ci t : Nat} {fs : List Value} {x : vp_A} (h1 : O a = some (ci, fs)) (h2 : A a = some (t, x)) : False := by
  obtain ⟨r, hr, cell, q1, q2, q3, q4⟩ := (h.2.1 a ci fs h1).2
  obtain ⟨-, -, kC, hk, hkind⟩ := hK.1.1 ci r hr
  have fin : ∀ ty, ArrOfT s (G.2 t) ty → cell.cls = G.2 t → False := by
    intro ty hA hcl
    obtain ⟨-, kA, hkA, comp, hkd⟩ := hA 0 (fun _ => .null)
    rw [← q2, hcl] at hk
    have hkA' : s.vm.classes[G.2 t]? = some kA := hkA
    rw [hk] at hkA'
    cases hkA'
    rw [hkind] at hkd
    cases hkd
  rcases h.2.2 a t x h2 with ⟨t4, -, g1⟩ | ⟨t4, t6, cell9, f, -, g1, hcl, -⟩
  · have hc : cell = vp_cell (G.2 t) x := Option.some.inj (q1.symm.trans g1)
    exact fin _ (hK.1.2 t _ (aTys_at t4)).1 (by rw [hc]; obtain ⟨n, f | f | f | f | f⟩ := x <;> rfl)
  · cases Option.some.inj (q1.symm.trans g1)
    rcases (show t = 4 ∨ t = 5 by omega) with rfl | rfl
    · exact fin _ hK.2.1 hcl
    · exact fin _ hK.2.2 hcl
theorem va_P1 {D : va_G} {cl : List vw_C} {q : Nat × va_E} (h : va_at D cl q H) : va_P D cl [q] H := by
  intro k q' hq
  match k, hq with
  | 0, hq => cases hq; exact h
theorem aNth_eq : ∀ (fs : List Value) (k : Nat), aNth fs k = fs[k]?
  | [], _ => rfl
  | _ :: _, 0 => rfl
  | _ :: r, k + 1 => by rw [List.getElem?_cons_succ]; exact aNth_eq r k
theorem aPut_eq : ∀ (fs : List Value) (k : Nat) (v : Value), aPut fs k v = fs.set k v
  | [], _, _ => rfl
  | _ :: _, 0, _ => rfl
  | _ :: r, k + 1, v => by rw [List.set_cons_succ, ← aPut_eq r k v]; rfl
theorem aI_get (C : aCx G base tA own cc nL ini p s m args meth c) {idx ci k z a : Nat} {fs : List Value} {v : Value} (hF : aFl own idx ci k z) (hd : decode cc pc = .ok (.getfield idx, 3)) (ha : O a = some (ci, fs)) (hv : aNth fs k = some v) (kk : aW p l e R s m args below meth c Q G base nL (pc + 3) L (v :: st) O A nc ns) : aW p l e R s m args below meth c Q G base nL pc L (.ref a :: st) O A nc ns := by
  intro H locs ls hR hS hL
  obtain ⟨hx, hb, hml, hown, hts, hK, hst, hstr, hi, hbs, hlk⟩ := C
  obtain ⟨Cn, T, N, ty, hc, hk, hlink, hin, hty, hnm, hz⟩ := hF
  exact va_get (D := G.1) (ci := ci) (C := Cn) (T := T) (N := N) (Ts := aT) hx hb hts hin hown hK.1 (va_P1 (hR.2.1 a ci fs ha).2) 0 rfl hc k hk (hts _ hlink) (fun _ h => h) (by rw [← aNth_eq]; exact hv) hd (kk H locs ls hR hS hL)
theorem aFz_ok {z : Nat} {ty : FieldType} {v : Value} (hz : (z = 0 ∧ ty = .int) ∨ (z = 1 ∧ ty = .boolean) ∨ (z = 2 ∧ ((∃ n, ty = .object n) ∨ ∃ t, ty = .array t))) (h : aFz z v) : narrow ty v = v ∧ fits ty v = true := by
  rcases hz with ⟨rfl, rfl⟩ | ⟨rfl, rfl⟩ | ⟨rfl, ⟨n, rfl⟩ | ⟨t, rfl⟩⟩
  · cases v <;> simp [aFz] at h; exact ⟨rfl, rfl⟩
  · cases v <;> simp [aFz] at h
    rcases h with rfl | rfl
    · exact ⟨by decide +kernel, by decide +kernel⟩
    · exact ⟨by decide +kernel, by decide +kernel⟩
  · cases v <;> simp [aFz] at h <;> exact ⟨rfl, rfl⟩
  · cases v <;> simp [aFz] at h <;> exact ⟨rfl, rfl⟩
theorem aI_put (C : aCx G base tA own cc nL ini p s m args meth c) {idx ci k z a : Nat} {fs : List Value} {v : Value} (hF : aFl own idx ci k z ∧ ∃ (C : String) (T : u_T) (N : Nat), vwCl[ci]? = some (C, T, N) ∧ ((T k).2.2.2 = false ∨ (ini = true ∧ (T k).1 = own))) (hd : decode cc pc = .ok (.putfield idx, 3)) (ha : O a = some (ci, fs)) (hl : k < fs.length) (hv : aFz z v) (kk : aW p l e R s m args below meth c Q G base nL (pc + 3) L st (aSet O a (ci, aPut fs k v)) A nc ns) : aW p l e R s m args below meth c Q G base nL pc L (v :: .ref a :: st) O A nc ns := by
  intro H locs ls hR hS hL
  obtain ⟨hx, hb, hml, hown, hts, hK, hst, hstr, hini, hbs, hlk⟩ := C
  obtain ⟨⟨Cn, T, N, ty, hc, hk, hlink, hin, hty, hnm, hz⟩, C2, T2, N2, e2, hf2⟩ := hF
  rw [hc] at e2
  cases e2
  obtain ⟨hn, hfit⟩ := aFz_ok hz hv
  have hap := va_apart (own := own) (D := G.1) (ci := ci) hts hin ty hty hnm hK.1 hc
  obtain ⟨hba, r, h1, cell, q1, q2, q3, q4⟩ := hR.2.1 a ci fs ha
  have hr : r = (Cn, T, N) := Option.some.inj (h1.symm.trans hc)
  subst hr
  obtain ⟨hSl, hfc, kC, hkC, hkind⟩ := hK.1.1 ci _ hc
  obtain ⟨cf, kf, fi, f, hi, hsl⟩ := hSl k hk
  have hlay := hts _ (hin _ (u_in_lay hk))
  have hst' := (u_facts hfc hkC (u_lays hts hin hk) hi).1
  have fin : ∀ H' : Heap, H'[a]? = some (cell.setSlot f.slot v) → H'.size = H.size → (∀ q, q ≠ a → H'[q]? = H[q]?) → W p l e R s m args below meth c H' (locs ++ [⟨a, f.slot⟩]) nc ns Q (F0 m (pc + 3) ls st) := by
    intro H' e1 e2 e3
    rw [hsl] at e1
    refine kk H' _ ls (hR.obj ha e2 e3 ?_ (fun t x hA => hR.apart hK ha hA)) (hS.put e2 e3 hba) hL
    rw [aPut_eq]
    exact ⟨_, hc, t_OB.to (V := updV (vp_V fs) k v) ⟨_, e1, q2, q3, t_set q4 hap hk v⟩ (fun j _ => vp_updV_set hl v j)⟩
  by_cases hff : (T k).2.2.2 = false
  · unfold u_lay at hlay
    rw [if_neg (by rw [hff]; decide)] at hlay
    have h6 := u_store hfc hkC hkind hlay hi (hty k hk) hn hfit
    exact W.putK hx hb (f := f) ⟨hown, hts _ hlink, ⟨_, _, _, hi⟩, hst'⟩ (by rw [q2]; exact h6) q1 q3 (by rw [hsl]; exact k2_hasslot (q4 k hk)) rfl rfl hd fin
  · have hff2 : (T k).2.2.2 = true := by simpa using hff
    have hdecl : (T k).1 = own := (hf2.resolve_left hff).2
    have hin2 : meth.name = "<init>" := hini (hf2.resolve_left hff).1
    unfold u_lay at hlay
    rw [if_pos hff2] at hlay
    have hcf : m.cls = cf := by
      obtain ⟨_, _, c', _, _, _, -, -, hf', -, -, -, hown2, -⟩ := Cond.laysFinal_spec hlay
      have e1 : c' = cf := by have := hi.symm.trans hf'; simp at this; exact this.1.symm
      rw [hdecl] at hown2
      rw [← e1]; exact Option.some.inj (hown.symm.trans hown2)
    have h6 := u_fits hfc hkC hkind (Or.inr hlay) hi (hty k hk) hn hfit
    exact W.putFinK hx hb hown (hts _ hlink) hi hst' hcf hin2 (by rw [q2]; exact h6) q1 q3 (by rw [hsl]; exact k2_hasslot (q4 k hk)) rfl rfl hd fin
theorem aI_iald (C : aCx G base tA own cc nL ini p s m args meth c) {a t n : Nat} {f : Nat → Int32} {i : Int32} (ha : A a = some (t, n, .inl f)) (ht : t = 0 ∨ 4 ≤ t) (hin : vp_in i n) (hd : decode cc pc = .ok (.iaload, 1)) (kk : aW p l e R s m args below meth c Q G base nL (pc + 1) L (.int (f i.toNatClampNeg) :: st) O A nc ns) : aW p l e R s m args below meth c Q G base nL pc L (.int i :: .ref a :: st) O A nc ns := by
  intro H locs ls hR hS hL
  obtain ⟨hx, hb, hml, hown, hts, hK, hst, hstr, hi, hbs, hlk⟩ := C
  rcases hR.2.2 a _ _ ha with ⟨t4, -, g⟩ | ⟨t4, t6, cell, f9, hf9, g, hcl, hv1, hv2, hsz, hval⟩
  · have ht : t = 0 := by omega
    subst ht
    have hq : va_at G.1 vwCl (a, .inl (G.2 0, n, .inl f)) H := g
    exact va_iald (D := G.1) (tys := aTys G) hx hb hK.1 (va_P1 hq) 0 0 rfl rfl hin hd (kk H locs ls hR hS hL)
  · have hff : f9 = f := by cases hf9; rfl
    subst hff
    have hlt : i.toNatClampNeg < n := Nat.not_le.mp fun q => hin (Or.inr q)
    have har : s.isArrayOf cell .int := by
      refine ⟨hv1, ?_⟩
      rw [hcl]
      rcases (show t = 4 ∨ t = 5 by omega) with rfl | rfl
      · exact (hK.2.1 0 (fun _ => .null)).2
      · exact (hK.2.2 0 (fun _ => .null)).2
    have hsz : cell.slots.size = n := hsz
    exact W.iald (v := .int (f9 i.toNatClampNeg)) hx hb g har hv2 (by rw [hsz]; exact hin) (hval _ hlt) rfl rfl hd (kk H locs ls hR hS hL)
theorem aI_bald (C : aCx G base tA own cc nL ini p s m args meth c) {a n : Nat} {f : Nat → Int32} {i : Int32} (ha : A a = some (1, n, .inl f)) (hin : vp_in i n) (hd : decode cc pc = .ok (.baload, 1)) (kk : aW p l e R s m args below meth c Q G base nL (pc + 1) L (.int (f i.toNatClampNeg) :: st) O A nc ns) : aW p l e R s m args below meth c Q G base nL pc L (.int i :: .ref a :: st) O A nc ns := by
  intro H locs ls hR hS hL
  obtain ⟨hx, hb, hml, hown, hts, hK, hst, hstr, hi, hbs, hlk⟩ := C
  have hq : va_at G.1 vwCl (a, .inl (G.2 1, n, .inl f)) H := ((hR.2.2 a _ _ ha).made (by decide)).2
  exact va_bald (D := G.1) (tys := aTys G) hx hb hK.1 (va_P1 hq) 0 1 rfl rfl hin hd (kk H locs ls hR hS hL)
theorem aI_lald (C : aCx G base tA own cc nL ini p s m args meth c) {a n : Nat} {f : Nat → Int64} {i : Int32} (ha : A a = some (2, n, .inr (.inl f))) (hin : vp_in i n) (hd : decode cc pc = .ok (.laload, 1)) (kk : aW p l e R s m args below meth c Q G base nL (pc + 1) L (.long (f i.toNatClampNeg) :: st) O A nc ns) : aW p l e R s m args below meth c Q G base nL pc L (.int i :: .ref a :: st) O A nc ns := by
  intro H locs ls hR hS hL
  obtain ⟨hx, hb, hml, hown, hts, hK, hst, hstr, hi, hbs, hlk⟩ := C
  have hq : va_at G.1 vwCl (a, .inl (G.2 2, n, .inr (.inl f))) H := ((hR.2.2 a _ _ ha).made (by decide)).2
  exact va_lald (D := G.1) (tys := aTys G) hx hb hK.1 (va_P1 hq) 0 2 rfl rfl hin hd (kk H locs ls hR hS hL)
theorem aI_aald (C : aCx G base tA own cc nL ini p s m args meth c) {a n : Nat} {f : Nat → Option Nat} {i : Int32} (ha : A a = some (3, n, .inr (.inr (.inr (.inr f))))) (hin : vp_in i n) (hd : decode cc pc = .ok (.aaload, 1)) (kk : aW p l e R s m args below meth c Q G base nL (pc + 1) L (va_rf (f i.toNatClampNeg) :: st) O A nc ns) : aW p l e R s m args below meth c Q G base nL pc L (.int i :: .ref a :: st) O A nc ns := by
  intro H locs ls hR hS hL
  obtain ⟨hx, hb, hml, hown, hts, hK, hst, hstr, hi, hbs, hlk⟩ := C
  have hq : va_at G.1 vwCl (a, .inl (G.2 3, n, .inr (.inr (.inr (.inr f))))) H := ((hR.2.2 a _ _ ha).made (by decide)).2
  exact va_aldq (D := G.1) (tys := aTys G) hx hb hK.1 (va_P1 hq) 0 3 rfl rfl hin hd (kk H locs ls hR hS hL)
theorem aI_alen (C : aCx G base tA own cc nL ini p s m args meth c) {a t n : Nat} {x : (Nat → Int32) ⊕ (Nat → Int64) ⊕ (Nat → UInt32) ⊕ (Nat → UInt64) ⊕ (Nat → Option Nat)} (ha : A a = some (t, n, x)) (hd : decode cc pc = .ok (.arraylength, 1)) (kk : aW p l e R s m args below meth c Q G base nL (pc + 1) L (.int (nI n) :: st) O A nc ns) : aW p l e R s m args below meth c Q G base nL pc L (.ref a :: st) O A nc ns := by
  intro H locs ls hR hS hL
  obtain ⟨hx, hb, hml, hown, hts, hK, hst, hstr, hi, hbs, hlk⟩ := C
  rcases hR.2.2 a _ _ ha with ⟨t4, -, g⟩ | ⟨t4, t6, cell, f9, hf9, g, hcl, hv1, hv2, hsz, hval⟩
  · have hq : va_at G.1 vwCl (a, .inl (G.2 t, n, x)) H := g
    exact va_alen (D := G.1) (tys := aTys G) hx hb hK.1 (va_P1 hq) 0 t rfl (aTys_at t4) rfl hd (kk H locs ls hR hS hL)
  · have har : s.isArrayOf cell .int := by
      refine ⟨hv1, ?_⟩
      rw [hcl]
      rcases (show t = 4 ∨ t = 5 by omega) with rfl | rfl
      · exact (hK.2.1 0 (fun _ => .null)).2
      · exact (hK.2.2 0 (fun _ => .null)).2
    have hsz : cell.slots.size = n := hsz
    exact W.alen (n := Int32.ofNat n) hx hb g har (by rw [hsz] <;> rfl) rfl rfl hd (kk H locs ls hR hS hL)
theorem aI_iast (C : aCx G base tA own cc nL ini p s m args meth c) {a n : Nat} {f : Nat → Int32} {i v : Int32} (ha : A a = some (0, n, .inl f)) (hin : vp_in i n) (hd : decode cc pc = .ok (.iastore, 1)) (kk : aW p l e R s m args below meth c Q G base nL (pc + 1) L st O (aSet A a (0, n, .inl (upd f i.toNatClampNeg v))) nc ns) : aW p l e R s m args below meth c Q G base nL pc L (.int v :: .int i :: .ref a :: st) O A nc ns := by
  intro H locs ls hR hS hL
  obtain ⟨hx, hb, hml, hown, hts, hK, hst, hstr, hi, hbs, hlk⟩ := C
  obtain ⟨hba, g⟩ := (hR.2.2 a _ _ ha).made (by decide)
  refine W.iast hx hb g ((hK.1.2 0 _ rfl).1 n (fun j => .int (f j))) (fun q => by cases q) (by show ¬ (i < 0 ∨ (arrV _ _ _).slots.size ≤ _); rw [arrV_size]; exact hin) rfl rfl hd fun H1 e z oq => ?_
  refine kk H1 _ ls (hR.arr ha z oq (by decide) ?_ (fun ci fs hO => hR.apart hK hO ha)) (hS.put z oq hba) hL
  rw [e, vp_cell_i, vp_cell_i, arrV_store]
  congr 2
  funext q
  by_cases hq : q = i.toNatClampNeg
  · subst hq
    simp [updV, upd]
  · simp [updV, upd, hq]
theorem aI_bast (C : aCx G base tA own cc nL ini p s m args meth c) {a n : Nat} {f : Nat → Int32} {i v : Int32} (ha : A a = some (1, n, .inl f)) (hin : vp_in i n) (hd : decode cc pc = .ok (.bastore, 1)) (kk : aW p l e R s m args below meth c Q G base nL (pc + 1) L st O (aSet A a (1, n, .inl (upd f i.toNatClampNeg (vp_nar .byte v)))) nc ns) : aW p l e R s m args below meth c Q G base nL pc L (.int v :: .int i :: .ref a :: st) O A nc ns := by
  intro H locs ls hR hS hL
  obtain ⟨hx, hb, hml, hown, hts, hK, hst, hstr, hi, hbs, hlk⟩ := C
  obtain ⟨hba, g⟩ := (hR.2.2 a _ _ ha).made (by decide)
  refine W.bast hx hb g ((hK.1.2 1 _ rfl).1 n (fun j => .int (f j))) (fun q => by cases q) (by show ¬ (i < 0 ∨ (arrV _ _ _).slots.size ≤ _); rw [arrV_size]; exact hin) rfl rfl hd fun H1 e z oq => ?_
  refine kk H1 _ ls (hR.arr ha z oq (by decide) ?_ (fun ci fs hO => hR.apart hK hO ha)) (hS.put z oq hba) hL
  rw [e, vp_cell_i, vp_cell_i, arrV_store]
  congr 2
  funext q
  by_cases hq : q = i.toNatClampNeg
  · subst hq
    simp [updV, upd, vp_nar]
    try rfl
  · simp [updV, upd, hq]
theorem aI_last (C : aCx G base tA own cc nL ini p s m args meth c) {a n : Nat} {f : Nat → Int64} {i : Int32} {v : Int64} (ha : A a = some (2, n, .inr (.inl f))) (hin : vp_in i n) (hd : decode cc pc = .ok (.lastore, 1)) (kk : aW p l e R s m args below meth c Q G base nL (pc + 1) L st O (aSet A a (2, n, .inr (.inl (vp_updL f i.toNatClampNeg v)))) nc ns) : aW p l e R s m args below meth c Q G base nL pc L (.long v :: .int i :: .ref a :: st) O A nc ns := by
  intro H locs ls hR hS hL
  obtain ⟨hx, hb, hml, hown, hts, hK, hst, hstr, hi, hbs, hlk⟩ := C
  obtain ⟨hba, g⟩ := (hR.2.2 a _ _ ha).made (by decide)
  refine W.last hx hb g ((hK.1.2 2 _ rfl).1 n (fun j => .long (f j))) (fun q => by cases q) (by show ¬ (i < 0 ∨ (arrV _ _ _).slots.size ≤ _); rw [arrV_size]; exact hin) rfl rfl hd fun H1 e z oq => ?_
  refine kk H1 _ ls (hR.arr ha z oq (by decide) ?_ (fun ci fs hO => hR.apart hK hO ha)) (hS.put z oq hba) hL
  rw [e, vp_cell_l, vp_cell_l, arrV_store]
  congr 2
  funext q
  by_cases hq : q = i.toNatClampNeg
  · subst hq
    simp [updV, vp_updL]
  · simp [updV, vp_updL, hq]
theorem aI_aast (C : aCx G base tA own cc nL ini p s m args meth c) {a n v : Nat} {fs : List Value} {f : Nat → Option Nat} {i : Int32} (ha : A a = some (3, n, .inr (.inr (.inr (.inr f))))) (hin : vp_in i n) (hv : O v = some (5, fs)) (hd : decode cc pc = .ok (.aastore, 1)) (kk : aW p l e R s m args below meth c Q G base nL (pc + 1) L st O (aSet A a (3, n, .inr (.inr (.inr (.inr (va_up f i.toNatClampNeg (some v))))))) nc ns) : aW p l e R s m args below meth c Q G base nL pc L (.ref v :: .int i :: .ref a :: st) O A nc ns := by
  intro H locs ls hR hS hL
  obtain ⟨hx, hb, hml, hown, hts, hK, hst, hstr, hi, hbs, hlk⟩ := C
  obtain ⟨hba, g⟩ := (hR.2.2 a _ _ ha).made (by decide)
  have hlt : i.toNatClampNeg < n := Nat.not_le.mp fun q => hin (Or.inr q)
  have h0 : ¬ i < 0 := fun q => hin (Or.inl q)
  obtain ⟨-, r', hr', cellV, g1, g2, g3, -⟩ := hR.2.1 v _ _ hv
  have hcls := (hK.1.1 5 _ rfl).2
  obtain ⟨kA, comp, k1, k2, k3, -⟩ := (hK.1.2 3 _ rfl).2
  have hcomp : comp = G.1.1 5 := Option.some.inj (k3.symm.trans hcls.1)
  subst hcomp
  obtain ⟨kC, hkC, -⟩ := id hcls.2
  refine W.aast hx hb g (fun q h => by cases h) (fun h => by cases h) k1 k2 rfl hkC ⟨h0, by show _ < (arrV _ _ _).slots.size; rw [arrV_size]; exact hlt⟩ g1 (fun q h => by rw [h] at g3; cases g3) (by rw [g2]; exact hkC) (by rw [g2]; exact va_assign hcls) rfl rfl hd fun H1 e z oq => ?_
  refine kk H1 _ ls (hR.arr ha z oq (by decide) ?_ (fun ci fs hO => hR.apart hK hO ha)) (hS.put z oq hba) hL
  rw [e, vp_cell_q, vp_cell_q, arrV_store]
  congr 2
  funext q
  by_cases hq : q = i.toNatClampNeg
  · subst hq
    simp [updV, va_up, va_rf]
  · simp [updV, va_up, hq]
end SND2
end
section
section SND3
variable {p : Program} {l : Launch} {e : Env} {R : Room} {s : State} {m : MethodId} {args : Array Value} {below : List Frame} {meth : Method} {c : Code} {Q : State → Prop} {G : aG} {base tA : Nat} {own : String} {cc : ByteArray} {nL : Nat} {ini : Bool}
variable {pc : Nat} {L : aL} {st : List Value} {O : aO} {A : aA} {nc ns : Nat} {H : Heap}
theorem aRel.freshO (h : aRel G base O A H) : ∀ a, O a ≠ none → a < H.size := by
  intro a ha
  cases hq : O a with
  | none => exact absurd hq ha
  | some q =>
    obtain ⟨ci, fs⟩ := q
    exact (h.2.1 a ci fs hq).2.lt
theorem aRel.freshA (h : aRel G base O A H) : ∀ a, A a ≠ none → a < H.size := by
  intro a ha
  cases hq : A a with
  | none => exact absurd hq ha
  | some q =>
    obtain ⟨t, x⟩ := q
    exact (h.2.2 a t x hq).lt
theorem aRel.pushO {H1 : Heap} {ci : Nat} {fs : List Value} (h : aRel G base O A H) (z : H1.size = H.size + 1) (o1 : ∀ q : Nat, q < H.size → H1[q]? = H[q]?) (hn : va_at G.1 vwCl (H.size, .inr (ci, fs)) H1) : aRel G base (aSet O H.size (ci, fs)) A H1 := by
  refine ⟨by rw [z]; exact Nat.le_succ_of_le h.1, fun b cj gs hb => ?_, fun b t x hb => ?_⟩
  · by_cases e : b = H.size
    · rw [e, aSet_eq] at hb
      cases hb
      rw [e]
      exact ⟨h.1, hn⟩
    · rw [aSet_ne e] at hb
      exact ⟨(h.2.1 b cj gs hb).1, (h.2.1 b cj gs hb).2.kept (o1 b (h.2.1 b cj gs hb).2.lt)⟩
  · exact (h.2.2 b t x hb).kept (o1 b (h.freshA b (by rw [hb]; simp)))
theorem aRel.pushA {H1 : Heap} {t : Nat} {x : vp_A} (h : aRel G base O A H) (ht : t < 4) (z : H1.size = H.size + 1) (o1 : ∀ q : Nat, q < H.size → H1[q]? = H[q]?) (hn : H1[H.size]? = some (vp_cell (G.2 t) x)) : aRel G base O (aSet A H.size (t, x)) H1 := by
  refine ⟨by rw [z]; exact Nat.le_succ_of_le h.1, fun b cj gs hb => ?_, fun b u y hb => ?_⟩
  · exact ⟨(h.2.1 b cj gs hb).1, (h.2.1 b cj gs hb).2.kept (o1 b (h.2.1 b cj gs hb).2.lt)⟩
  · by_cases e : b = H.size
    · rw [e, aSet_eq] at hb
      cases hb
      rw [e]
      exact Or.inl ⟨ht, h.1, hn⟩
    · rw [aSet_ne e] at hb
      exact (h.2.2 b u y hb).kept (o1 b (h.freshA b (by rw [hb]; simp)))
theorem va_S.pushed {A9 : Nat → Prop} {H0 H1 : Heap} {locs : List Loc} (hS : va_S A9 H0 H locs) (z : H1.size = H.size + 1) (o1 : ∀ q : Nat, q < H.size → H1[q]? = H[q]?) : va_S A9 H0 H1 locs :=
  ⟨Nat.le_trans hS.1 (by omega), fun x h1 h2 => (o1 x (Nat.lt_of_lt_of_le h1 hS.1)).trans (hS.2.1 x h1 h2), hS.2.2⟩
theorem aI_new (C : aCx G base tA own cc nL ini p s m args meth c) {idx ci n : Nat} {ts : List Nat} (hF : aCl own idx ci n ts) (hd : decode cc pc = .ok (.new idx, 3)) (hc1 : nc + 1 ≤ R.cells) (hs1 : ns + n ≤ R.slots)
    (kk : ∀ q : Nat, (∀ a, O a ≠ none → a < q) → (∀ a, A a ≠ none → a < q) → aW p l e R s m args below meth c Q G base nL (pc + 3) L (.ref q :: st) (aSet O q (ci, aBl ts)) A (nc + 1) (ns + n)) : aW p l e R s m args below meth c Q G base nL pc L st O A nc ns := by
  intro H locs ls hR hS hL
  obtain ⟨hx, hb, hml, hown, hts, hK, hst, hstr, hi, hbs, hlk⟩ := C
  obtain ⟨Cn, T, ty, hc, hcl, hinst, hini, hin, hty, hbl⟩ := hF
  have hKn := hK.1.1 ci _ hc
  refine W.newcK hx hb hown (hts _ hcl) (hts _ hinst) (hts _ hini) rfl hd hc1 hs1 hKn.2.1 rfl fun H1 kC hkC e1 z1 o1 => ?_
  exact kk H.size hR.freshO hR.freshA H1 locs ls (hR.pushO z1 o1 ⟨_, hc, (u_born ty hts hin hKn hkC e1 hty).to hbl⟩) (hS.pushed z1 o1) hL
theorem aI_newa (C : aCx G base tA own cc nL ini p s m args meth c) {x N : Nat} {at9 : ArrayType} {n : Int32} (hF : x < 3 ∧ newarray.typeOf at9 = aTy x ∧ Cond.arrayClass (newarray.typeOf at9) ∈ aT) (hd : decode cc pc = .ok (.newarray at9, 2)) (hn : n = nI N) (hN : N ≤ 65536) (hc1 : nc + 1 ≤ R.cells) (hs1 : ns + N ≤ R.slots)
    (kk : ∀ q : Nat, (∀ a, O a ≠ none → a < q) → (∀ a, A a ≠ none → a < q) → aW p l e R s m args below meth c Q G base nL (pc + 2) L (.ref q :: st) O (aSet A q (x, N, if x = 2 then .inr (.inl fun _ => 0) else .inl fun _ => 0)) (nc + 1) (ns + N)) : aW p l e R s m args below meth c Q G base nL pc L (.int n :: st) O A nc ns := by
  intro H locs ls hR hS hL
  obtain ⟨hx, hb, hml, hown, hts, hK, hst, hstr, hi, hbs, hlk⟩ := C
  obtain ⟨hx3, hty, harr⟩ := hF
  subst hn
  refine va_newaK hx hb (hts _ harr) rfl hd rfl (nI_pos (by omega)) (nI_clamp (by omega)) ?_ hc1 hs1 rfl fun H1 cA e1 z1 o1 hAr hNm => ?_
  · have : componentBytes (newarray.typeOf at9) ≤ 8 := by cases at9 <;> decide
    calc N * componentBytes (newarray.typeOf at9) ≤ 65536 * 8 := Nat.mul_le_mul hN this
      _ ≤ 536870912 := by decide
  · have hra := (hK.1.2 x _ (aTys_at (by omega))).2
    rw [hty] at hNm e1
    have hcA : G.2 x = cA := by
      match x, hx3, hra, hNm with
      | 0, _, hra, hNm => exact Option.some.inj (hra.symm.trans hNm)
      | 1, _, hra, hNm => exact Option.some.inj (hra.symm.trans hNm)
      | 2, _, hra, hNm => exact Option.some.inj (hra.symm.trans hNm)
    refine kk H.size hR.freshO hR.freshA H1 locs ls (hR.pushA (by omega) z1 o1 ?_) (hS.pushed z1 o1) hL
    rw [e1, ← hcA]
    match x, hx3 with
    | 0, _ => rfl
    | 1, _ => rfl
    | 2, _ => rfl
theorem aI_anew (C : aCx G base tA own cc nL ini p s m args meth c) {idx N : Nat} {n : Int32} (hF : Cond.classLink own idx "PackedDecimals$Numeral" ∈ aT) (hd : decode cc pc = .ok (.anewarray idx, 3)) (hn : n = nI N) (hN : N ≤ 65536) (hc1 : nc + 1 ≤ R.cells) (hs1 : ns + N ≤ R.slots)
    (kk : ∀ q : Nat, (∀ a, O a ≠ none → a < q) → (∀ a, A a ≠ none → a < q) → aW p l e R s m args below meth c Q G base nL (pc + 3) L (.ref q :: st) O (aSet A q (3, N, .inr (.inr (.inr (.inr fun _ => none))))) (nc + 1) (ns + N)) : aW p l e R s m args below meth c Q G base nL pc L (.int n :: st) O A nc ns := by
  intro H locs ls hR hS hL
  obtain ⟨hx, hb, hml, hown, hts, hK, hst, hstr, hi, hbs, hlk⟩ := C
  subst hn
  have hcl : (nI N).toNatClampNeg = N := nI_clamp (by omega)
  refine W.anew hx hb hown (hts _ hF) (va_AO.use hstr.2.2.1) rfl hd rfl (nI_pos (by omega)) (by rw [hcl]; omega) hc1 (by rw [hcl]; exact hs1) fun cA kA comp f1 f2 f3 f4 => ?_
  rw [hcl]
  generalize hH1 : H.push ({ cls := cA, slots := Array.replicate N .null, vm := .none } : Cell) = H1
  have z1 : H1.size = H.size + 1 := by rw [← hH1, Array.size_push]
  have e1 : H1[H.size]? = some (arrV cA N (fun _ => .null)) := by rw [← hH1, Array.getElem?_push_size, ← arrV_new]
  have o1 : ∀ q : Nat, q < H.size → H1[q]? = H[q]? := fun q hq => by rw [← hH1, Array.getElem?_push, if_neg (Nat.ne_of_lt hq)]
  obtain ⟨kA9, comp9, k1, k2, k3, k4⟩ := (hK.1.2 3 _ rfl).2
  have hcA : G.2 3 = cA := Option.some.inj (k4.symm.trans f1)
  refine kk H.size hR.freshO hR.freshA H1 locs ls (hR.pushA (by decide) z1 o1 ?_) (hS.pushed z1 o1) hL
  rw [e1, ← hcA]
  rfl
theorem aI_gets (C : aCx G base tA own cc nL ini p s m args meth c) {idx : Nat} (hF : Cond.fieldLink own idx "PackedDecimals$Natural" "TENS" "[I" ∈ aT) (hd : decode cc pc = .ok (.getstatic idx, 3)) (kk : aW p l e R s m args below meth c Q G base nL (pc + 3) L (.ref tA :: st) O A nc ns) : aW p l e R s m args below meth c Q G base nL pc L st O A nc ns := by
  intro H locs ls hR hS hL
  obtain ⟨hx, hb, hml, hown, hts, hK, hst, hstr, hi, hbs, hlk⟩ := C
  exact va_gets hx hb hst.1 hS hown (hts _ hF) (fun _ h => h) hd (kk H locs ls hR hS hL)
/-! ===== contracts ===== -/
def aQc (G : aG) (base tA : Nat) (Post : aPost) : Array Value → State → Outcome → State → Prop := fun _ st o t => (∃ v O' A', o = .returned v ∧ Post v O' A' ∧ aGood G base tA O' A' t) ∧ va_F (fun q => base ≤ q) st t
def aXc (G : aG) (base tA : Nat) (PostX : aPostX) : String → State → State → Prop := fun n st t => (∃ O' A', PostX n O' A' ∧ aGood G base tA O' A' t) ∧ va_F (fun q => base ≤ q) st t
/-- the contract of a method that returns -/
def aMet (l : Launch) (G : aG) (base tA : Nat) (y : MethodName) (cc : ByteArray) (nL : Nat) (ret : Option FieldType) (rm : Room) (av : List Value) (O : aO) (A : aA) (Post : aPost) : Prop :=
  Met l y (aWs y cc nL ret) rm (va_Pc av (fun U => aGood G base tA O A U)) (aQc G base tA Post) rm.cells rm.slots (fun q => base ≤ q)
/-- the contract of a method that returns or throws -/
def aMetX (l : Launch) (G : aG) (base tA : Nat) (y : MethodName) (cc : ByteArray) (nL : Nat) (ret : Option FieldType) (rm : Room) (av : List Value) (O : aO) (A : aA) (Post : aPost) (PostX : aPostX) : Prop :=
  vx_Met l y (aWs y cc nL ret) rm (va_Pc av (fun U => aGood G base tA O A U)) (aQc G base tA Post) (aXc G base tA PostX) rm.cells rm.slots (fun q => base ≤ q)
theorem aWords {st : List Value} (h : st.length ≤ 4) : (st.map fun v => v.category).sum ≤ 8 := by
  have hc : ∀ v : Value, v.category ≤ 2 := fun v => by cases v <;> simp [Value.category]
  have : ∀ st : List Value, (st.map fun v => v.category).sum ≤ 2 * st.length := by
    intro st
    induction st with
    | nil => simp
    | cons v r ih =>
      have := hc v
      simp only [List.map_cons, List.sum_cons, List.length_cons]
      omega
  have := this st
  omega
/-- behind a call that returns -/
theorem aBack (C : aCx G base tA own cc nL ini p s m args meth c) {Post : aPost} {mc ms : Nat} {st0 : List Value} {ls : Array Slot} {locs : List Loc} {a : Array Value}
    (hr : va_Run p l e R s m args below meth c H locs nc ns mc ms (F0 m pc ls st0) st (aQc G base tA Post a) (fun q => base ≤ q)) (hS : va_S (fun q => base ≤ q) s.heap H locs) (hL : lv_has ls nL (aAs 0 L))
    (kk : ∀ v O' A', Post v O' A' → aW p l e R s m args below meth c Q G base nL (pc + 3) L (v.toList ++ st) O' A' (nc + mc) (ns + ms)) : W p l e R s m args below meth c H locs nc ns Q (F0 m pc ls st0) := by
  intro T hT X
  obtain ⟨v, st₀, t, T', LL, h0, X', hL9, e1, e2, ⟨⟨v', O', A', hv, hp, hg⟩, hz, hk⟩, stp⟩ := hr T hT X
  cases hv
  rw [h0] at hz hk
  obtain ⟨t2, a1, b1⟩ := kk v O' A' hp T'.heap (locs ++ LL) ls (by rw [e1]; exact hg.1) ⟨Nat.le_trans hS.1 (by rw [e1]; exact hz), fun q h1 h2 => by rw [e1, hk q (Nat.lt_of_lt_of_le h1 hS.1) h2]; exact hS.2.1 q h1 h2, fun q hq => by
      rcases List.mem_append.mp hq with h | h
      · exact hS.2.2 q h
      · exact hL9 q h⟩ hL T' rfl X'
  exact ⟨t2, stp t2 a1, b1⟩
theorem aGood_at (C : aCx G base tA own cc nL ini p s m args meth c) {locs : List Loc} (hR : aRel G base O A H) (hS : va_S (fun q => base ≤ q) s.heap H locs) {U : State} (hU : U.heap = H) (hW : s.WarmedH U.vm) : aGood G base tA O A U := by
  obtain ⟨hx, hb, hml, hown, hts, hK, hst, hstr, hi, hbs, hlk⟩ := C
  exact ⟨by rw [hU]; exact hR, hK.moved hW.alike, (hst.moved hW.alike).kept (by rw [hU]; exact hS.2.1), hstr.warm hW⟩
/-- a call of an instance method by its pool number -/
def aLkV (own : String) (idx ci : Nat) (y : MethodName) (cc : ByteArray) (nL n : Nat) (ret : Option FieldType) : Prop := ∃ (Cn : String) (T : u_T) (N : Nat), vwCl[ci]? = some (Cn, T, N) ∧ Cond.methodLink own idx y ∈ aT ∧ Cond.instanceMethod y ∈ aT ∧ Cond.selects Cn y y ∈ aT ∧ Cond.initialized Cn ∈ aT ∧ Cond.code y cc nL ret ∈ aT ∧ (y.cls = Cn ∧ y.cls ≠ "java/lang/invoke/MethodHandle" ∧ y.cls ≠ "java/lang/invoke/VarHandle" ∧ (parseMethodDescriptor y.desc).map (fun d => d.parameters.length) = some n)
theorem aI_callV (C : aCx G base tA own cc nL ini p s m args meth c) {idx ci b mxL n : Nat} {y : MethodName} {cy : ByteArray} {ret : Option FieldType} {rm : Room} {As : List Value} {fs : List Value} {Post : aPost} (hF : aLkV own idx ci y cy mxL n ret) (hM : aMet l G base tA y cy mxL ret rm (.ref b :: As) O A Post) (hn : As.length = n) (hb9 : O b = some (ci, fs))
    (hRm : rm.frames + 1 ≤ R.frames ∧ 8 + (mxL + 11) + rm.locals ≤ R.locals) (hc1 : nc + rm.cells ≤ R.cells) (hs1 : ns + rm.slots ≤ R.slots) (hst4 : st.length ≤ 4) (hd : decode cc pc = .ok (.invokevirtual idx, 3))
    (kk : ∀ v O' A', Post v O' A' → aW p l e R s m args below meth c Q G base nL (pc + 3) L (v.toList ++ st) O' A' (nc + rm.cells) (ns + rm.slots)) : aW p l e R s m args below meth c Q G base nL pc L (As.reverse ++ .ref b :: st) O A nc ns := by
  intro H locs ls hR hS hL
  obtain ⟨Cn, T, N, hc, hlk, hins, hsel, hini, hcd, hdd⟩ := hF
  have hcx := id C
  obtain ⟨hx, hb, hml, hown, hts, hK, hst, hstr, hi, hbs, hlk9⟩ := hcx
  have hG : GoodIn aT (wsV own idx Cn y (aWs y cy mxL ret)) := by
    intro w hw
    unfold wsV at hw
    rcases List.mem_append.mp hw with h | h
    · have : w ∈ aT := by
        simp only [List.mem_cons, List.not_mem_nil, or_false] at h
        rcases h with rfl | rfl | rfl | rfl <;> assumption
      exact aT_good w this
    · exact aWs_good hcd w h
  have hrun := va_runV (C := Cn) (b := b) (As := As) (rest := st) (g := F0 m pc ls (As.reverse ++ .ref b :: st)) (H := H) (locs := locs) (cells := nc) (slots := ns) (l := l) (e := e) (below := below) (meth := meth) ⟨hx, hb, hml, hown, hts⟩ hM (cwV (R := R) n hts hG rfl rfl rfl hdd hRm)
    ⟨aGood.blind, va_recv (D := G.1) (ci := ci) (q0 := 0) hK.1 (va_P1 (hR.2.1 b ci fs hb9).2) hc rfl, fun U hU hW => ⟨rfl, aGood_at C hR hS hU hW⟩⟩ rfl hn hL.1 rfl (lv_room (aWords hst4)) hd ⟨hc1, hs1⟩
  exact aBack C hrun hS hL kk
def aLkS (own : String) (idx : Nat) (y : MethodName) (cc : ByteArray) (nL n : Nat) (ret : Option FieldType) : Prop := Cond.methodLink own idx y ∈ aT ∧ Cond.static y ∈ aT ∧ Cond.initialized y.cls ∈ aT ∧ Cond.code y cc nL ret ∈ aT ∧ (y.cls ≠ "java/lang/invoke/MethodHandle" ∧ y.cls ≠ "java/lang/invoke/VarHandle" ∧ (parseMethodDescriptor y.desc).map (fun d => d.parameters.length) = some n)
theorem aI_callS (C : aCx G base tA own cc nL ini p s m args meth c) {idx mxL n : Nat} {y : MethodName} {cy : ByteArray} {ret : Option FieldType} {rm : Room} {As : List Value} {Post : aPost} (hF : aLkS own idx y cy mxL n ret) (hM : aMet l G base tA y cy mxL ret rm As O A Post) (hn : As.length = n)
    (hRm : rm.frames + 1 ≤ R.frames ∧ 8 + (mxL + 11) + rm.locals ≤ R.locals) (hc1 : nc + rm.cells ≤ R.cells) (hs1 : ns + rm.slots ≤ R.slots) (hst4 : st.length ≤ 4) (hd : decode cc pc = .ok (.invokestatic idx, 3))
    (kk : ∀ v O' A', Post v O' A' → aW p l e R s m args below meth c Q G base nL (pc + 3) L (v.toList ++ st) O' A' (nc + rm.cells) (ns + rm.slots)) : aW p l e R s m args below meth c Q G base nL pc L (As.reverse ++ st) O A nc ns := by
  intro H locs ls hR hS hL
  obtain ⟨hlk, hstc, hini, hcd, hdd⟩ := hF
  have hcx := id C
  obtain ⟨hx, hb, hml, hown, hts, hK, hst, hstr, hi, hbs, hlk9⟩ := hcx
  have hG : GoodIn aT (va_wsS own idx y (aWs y cy mxL ret)) := by
    intro w hw
    unfold va_wsS at hw
    rcases List.mem_append.mp hw with h | h
    · have : w ∈ aT := by
        simp only [List.mem_cons, List.not_mem_nil, or_false] at h
        rcases h with rfl | rfl | rfl <;> assumption
      exact aT_good w this
    · exact aWs_good hcd w h
  have hrun := va_runS (As := As) (rest := st) (g := F0 m pc ls (As.reverse ++ st)) (H := H) (locs := locs) (cells := nc) (slots := ns) (l := l) (e := e) (below := below) (meth := meth) ⟨hx, hb, hml, hown, hts⟩ hM (va_cwS (R := R) n hts hG rfl rfl rfl hdd hRm)
    ⟨aGood.blind, fun U hU hW => ⟨rfl, aGood_at C hR hS hU hW⟩⟩ rfl hn hL.1 rfl (lv_room (aWords hst4)) hd ⟨hc1, hs1⟩
  exact aBack C hrun hS hL kk
/-- a constructor by its pool number; nest: a nest mate's private one -/
def aLkI (own : String) (idx : Nat) (y : MethodName) (cc : ByteArray) (nL n : Nat) : Prop := (Cond.methodLink own idx y ∈ aT ∨ (own, idx, y) ∈ aNst) ∧ Cond.instanceMethod y ∈ aT ∧ Cond.initialized y.cls ∈ aT ∧ Cond.code y cc nL none ∈ aT ∧ y.name = "<init>" ∧ (y.cls ≠ "java/lang/invoke/MethodHandle" ∧ y.cls ≠ "java/lang/invoke/VarHandle" ∧ (parseMethodDescriptor y.desc).map (fun d => d.parameters.length) = some n)
theorem aI_callI (C : aCx G base tA own cc nL ini p s m args meth c) {idx b mxL n : Nat} {y : MethodName} {cy : ByteArray} {rm : Room} {As : List Value} {Post : aPost} (hF : aLkI own idx y cy mxL n) (hM : aMet l G base tA y cy mxL none rm (.ref b :: As) O A Post) (hn : As.length = n)
    (hRm : rm.frames + 1 ≤ R.frames ∧ 8 + (mxL + 11) + rm.locals ≤ R.locals) (hc1 : nc + rm.cells ≤ R.cells) (hs1 : ns + rm.slots ≤ R.slots) (hst4 : st.length ≤ 4) (hd : decode cc pc = .ok (.invokespecial idx, 3))
    (kk : ∀ v O' A', Post v O' A' → aW p l e R s m args below meth c Q G base nL (pc + 3) L (v.toList ++ st) O' A' (nc + rm.cells) (ns + rm.slots)) : aW p l e R s m args below meth c Q G base nL pc L (As.reverse ++ .ref b :: st) O A nc ns := by
  intro H locs ls hR hS hL
  obtain ⟨hlk, hins, hini, hcd, hnm, hdd⟩ := hF
  have hcx := id C
  obtain ⟨hx, hb, hml, hown, hts, hK, hst, hstr, hi, hbs, hlk9⟩ := hcx
  have hpre : PreS s H (va_Pc (.ref b :: As) (fun U => aGood G base tA O A U)) (.ref b :: As) := ⟨aGood.blind, fun U hU hW => ⟨rfl, aGood_at C hR hS hU hW⟩⟩
  rcases hlk with hlk | hlk
  · have hrun := va_runI (b := b) (As := As) (rest := st) (g := F0 m pc ls (As.reverse ++ .ref b :: st)) (H := H) (locs := locs) (cells := nc) (slots := ns) (l := l) (e := e) (below := below) (meth := meth) ⟨hx, hb, hml, hown, hts⟩ hM (cwI (R := R) n hts (aWs_good hcd) rfl rfl rfl (hts _ hini) (hts _ hlk) (hts _ hins) hnm hdd hRm)
      hpre rfl hn hL.1 rfl (lv_room (aWords hst4)) hd ⟨hc1, hs1⟩
    exact aBack C hrun hS hL kk
  · have hrun := va_runIN (b := b) (As := As) (rest := st) (g := F0 m pc ls (As.reverse ++ .ref b :: st)) (H := H) (locs := locs) (cells := nc) (slots := ns) (l := l) (e := e) (below := below) (meth := meth) ⟨hx, hb, hml, hown, hts⟩ hM ⟨va_cnB (R := R) n hts (aWs_good hcd) rfl rfl rfl (hstr.2.1 _ hlk) (hts _ hini) hdd hRm, hnm, hts _ hins⟩
      hpre rfl hn hL.1 rfl (lv_room (aWords hst4)) hd ⟨hc1, hs1⟩
    exact aBack C hrun hS hL kk
end SND3
end
section
section SND4
variable {p : Program} {l : Launch} {e : Env} {R : Room} {s : State} {m : MethodId} {args : Array Value} {below : List Frame} {meth : Method} {c : Code} {Q : State → Prop} {G : aG} {base tA : Nat} {own : String} {cc : ByteArray} {nL : Nat} {ini : Bool}
variable {pc : Nat} {L : aL} {st : List Value} {O : aO} {A : aA} {nc ns : Nat} {H : Heap}
/-- an exception of this name goes through this place -/
def aX (p : Program) (l : Launch) (e : Env) (R : Room) (s : State) (m : MethodId) (args : Array Value) (below : List Frame) (meth : Method) (c : Code) (Q : State → Prop) (G : aG) (base nL : Nat) : Nat → String → aKc := fun pc n L st O A nc ns =>
  ∀ (H : Heap) (locs : List Loc) (ls : Array Slot) (q : Nat) (ce : Cell), aRel G base O A H → va_S (fun q => base ≤ q) s.heap H locs → lv_has ls nL (aAs 0 L) → H[q]? = some ce → ce.vm = .none → s.vm.findClass n = some ce.cls → vx_W p l e R s m args below meth c H locs nc ns Q (F0 m pc ls st) q
def aCallOK (p : Program) (l : Launch) (e : Env) (R : Room) (s : State) (m : MethodId) (args : Array Value) (below : List Frame) (meth : Method) (c : Code) (Q : State → Prop) (G : aG) (base : Nat) (cc : ByteArray) (nL : Nat) (i : Instr) (av : List Value) (O : aO) (A : aA) (nc ns mc ms : Nat) (Post : aPost) (PostX : aPostX) : Prop :=
  ∀ (pc : Nat) (L : aL) (st : List Value), decode cc pc = .ok (i, 3) → st.length ≤ 4 → (∀ v O' A', Post v O' A' → aW p l e R s m args below meth c Q G base nL (pc + 3) L (v.toList ++ st) O' A' (nc + mc) (ns + ms)) →
    (∀ n O' A', PostX n O' A' → aX p l e R s m args below meth c Q G base nL pc n L st O' A' (nc + mc) (ns + ms)) → aW p l e R s m args below meth c Q G base nL pc L (av.reverse ++ st) O A nc ns
/-- what the words of E mean for the machine -/
def aEnv (p : Program) (l : Launch) (e : Env) (R : Room) (s : State) (m : MethodId) (args : Array Value) (below : List Frame) (meth : Method) (c : Code) (Q : State → Prop) (G : aG) (base tA : Nat) (cc : ByteArray) (nL : Nat) (E : aE) : Prop :=
  (∀ i av O A nc ns mc ms Post PostX, eCall E i av O A nc ns mc ms Post PostX → aCallOK p l e R s m args below meth c Q G base cc nL i av O A nc ns mc ms Post PostX) ∧
  (∀ pc L v ty O A nc ns, decode cc pc = .ok (.ireturn, 1) → eRt E = some ty → narrow ty (.int v) = .int v → eRet E (some (.int v)) O A nc ns → aW p l e R s m args below meth c Q G base nL pc L [.int v] O A nc ns) ∧
  (∀ pc L v O A nc ns, decode cc pc = .ok (.lreturn, 1) → eRt E = some .long → eRet E (some (.long v)) O A nc ns → aW p l e R s m args below meth c Q G base nL pc L [.long v] O A nc ns) ∧
  (∀ pc L v n O A nc ns, decode cc pc = .ok (.areturn, 1) → eRt E = some (.object n) → eRet E (some (.ref v)) O A nc ns → aW p l e R s m args below meth c Q G base nL pc L [.ref v] O A nc ns) ∧
  (∀ pc L O A nc ns, decode cc pc = .ok (.return_, 1) → eRt E = none → eRet E none O A nc ns → aW p l e R s m args below meth c Q G base nL pc L [] O A nc ns) ∧
  (∀ pc n L st O A nc ns, eExc E pc n L st O A nc ns → aX p l e R s m args below meth c Q G base nL pc n L st O A nc ns) ∧
  (∀ z pc L st O A nc ns, eThr E (z + 1) pc L st O A nc ns → aW p l e R s m args below meth c Q G base nL pc L st O A nc ns) ∧
  eTA E = tA ∧ eRc E = R.cells ∧ eRs E = R.slots
theorem aSw_ok {v : Int32} {J : Nat → Prop} {d l0 pc : Nat} : ∀ (ts : List Nat) (offs : List Int) (lo : Nat), aTg pc offs ts → aSw v J d l0 lo ts → (v.toInt < (l0 : Int) ∨ ((lo + ts.length : Nat) : Int) ≤ v.toInt → J d) ∧ ∀ k : Nat, v.toInt = ((lo + k : Nat) : Int) → k < ts.length → lo + ts.length < 2 ^ 31 → ∃ (off : Int) (t : Nat), offs[k]? = some off ∧ (pc : Int) + off = (t : Int) ∧ J t
  | [], [], lo, _, h => ⟨by simpa [aSw] using h, fun k _ hk => absurd hk (Nat.not_lt_zero k)⟩
  | [], _ :: _, _, h, _ => by cases h
  | _ :: _, [], _, h, _ => by cases h
  | t :: r, o :: r', lo, ht, h => by
    obtain ⟨h1, h2⟩ := h
    obtain ⟨i1, i2⟩ := aSw_ok r r' (lo + 1) ht.2 h2
    refine ⟨fun z => i1 ?_, fun k hk hl hb => ?_⟩
    · rcases z with z | z
      · exact Or.inl z
      · right
        simp only [List.length_cons] at z
        omega
    match k, hk, hl with
    | 0, hk, _ =>
      refine ⟨o, t, rfl, ht.1, h1 ?_⟩
      apply Int32.toInt_inj.mp
      rw [nI_toInt (by omega)]
      exact hk
    | k + 1, hk, hl =>
      simp only [List.length_cons] at hl hb
      obtain ⟨off, t', q1, q2, q3⟩ := i2 k (by rw [hk]; congr 1; omega) (by omega) (by omega)
      exact ⟨off, t', q1, q2, q3⟩
theorem aCat1_eq {v : Value} (h : aCat1 v) : v.category = 1 := by cases v <;> first | rfl | exact h.elim
set_option maxHeartbeats 4000000 in
set_option maxRecDepth 100000 in
theorem wpi_ok (C : aCx G base tA own cc nL ini p s m args meth c) {E : aE} (hE : aEnv p l e R s m args below meth c Q G base tA cc nL E) {jmp nxt : aK0} (hj : ∀ pc L st O A nc ns, jmp pc L st O A nc ns → aW p l e R s m args below meth c Q G base nL pc L st O A nc ns)
    {i : Instr} {x y z : Nat} {ts : List Nat} (hn : ∀ L st O A nc ns, nxt (pc + aLen i) L st O A nc ns → aW p l e R s m args below meth c Q G base nL (pc + aLen i) L st O A nc ns) (hd9 : ∃ n, decode cc pc = .ok (i, n) ∧ (n = aLen i ∨ ∃ a b c d, i = .tableswitch a b c d)) (hx : aEx own nL ini pc i x y z ts)
    (h : wpi E jmp nxt i x y z ts pc L st O A nc ns) : aW p l e R s m args below meth c Q G base nL pc L st O A nc ns := by
  have hcx := id C
  obtain ⟨hex, hb, hml, hown, hts, hK, hst, hstr, hi, hbs, hlk⟩ := hcx
  obtain ⟨hE1, hE2, hE3, hE4, hE5, hE6, hE7, hE8, hE9, hE10⟩ := hE
  obtain ⟨len, hd, hlen⟩ := hd9
  have hd1 : (∀ a b c d, i ≠ .tableswitch a b c d) → decode cc pc = .ok (i, aLen i) := fun h9 => by
    rcases hlen with h1 | ⟨a, b, c, d, h1⟩
    · rw [← h1]; exact hd
    · exact absurd h1 (h9 a b c d)
  cases i
  case tableswitch d lo hi offs =>
    dsimp only [wpi] at h
    dsimp only [aEx] at hx
    split at h
    · rename_i v r
      obtain ⟨e1, e2, e3, e5, e4⟩ := hx
      obtain ⟨k1, k2⟩ := aSw_ok ts offs.toList x e4 h
      intro H locs ls hR hS hL
      by_cases hlo : v.toInt < (x : Int)
      · exact lv_tableOut hex hb hd (Or.inl (by rw [e2]; exact hlo)) e1 (hj _ _ _ _ _ _ _ (k1 (Or.inl hlo)) H locs ls hR hS hL)
      · by_cases hhi : ((x + ts.length : Nat) : Int) ≤ v.toInt
        · exact lv_tableOut hex hb hd (Or.inr (by omega)) e1 (hj _ _ _ _ _ _ _ (k1 (Or.inr hhi)) H locs ls hR hS hL)
        · obtain ⟨off, t, q1, q2, q3⟩ := k2 (v.toInt - x).toNat (by omega) (by omega) (by omega)
          exact lv_tableIn hex hb hd (by rw [e2]; omega) (by omega) (by rw [e2, ← Array.getElem?_toList]; exact q1) q2 (hj _ _ _ _ _ _ _ q3 H locs ls hR hS hL)
    · exact h.elim
  case iadd =>
    have hd := hd1 (fun a b c d h => by cases h)
    dsimp only [wpi] at h
    dsimp only [aEx] at hx
    split at h
    · exact fun H locs ls hR hS hL => lv_iadd hex hb hd (hn _ _ _ _ _ _ h H locs ls hR hS hL)
    · exact h.elim
  case isub =>
    have hd := hd1 (fun a b c d h => by cases h)
    dsimp only [wpi] at h
    dsimp only [aEx] at hx
    split at h
    · exact fun H locs ls hR hS hL => lv_isub hex hb hd (hn _ _ _ _ _ _ h H locs ls hR hS hL)
    · exact h.elim
  case imul =>
    have hd := hd1 (fun a b c d h => by cases h)
    dsimp only [wpi] at h
    dsimp only [aEx] at hx
    split at h
    · exact fun H locs ls hR hS hL => lv_imul hex hb hd (hn _ _ _ _ _ _ h H locs ls hR hS hL)
    · exact h.elim
  case iand =>
    have hd := hd1 (fun a b c d h => by cases h)
    dsimp only [wpi] at h
    dsimp only [aEx] at hx
    split at h
    · exact fun H locs ls hR hS hL => lv_iand hex hb hd (hn _ _ _ _ _ _ h H locs ls hR hS hL)
    · exact h.elim
  case ior =>
    have hd := hd1 (fun a b c d h => by cases h)
    dsimp only [wpi] at h
    dsimp only [aEx] at hx
    split at h
    · exact fun H locs ls hR hS hL => lv_ior hex hb hd (hn _ _ _ _ _ _ h H locs ls hR hS hL)
    · exact h.elim
  case ishl =>
    have hd := hd1 (fun a b c d h => by cases h)
    dsimp only [wpi] at h
    dsimp only [aEx] at hx
    split at h
    · exact fun H locs ls hR hS hL => lv_ishl hex hb hd (hn _ _ _ _ _ _ h H locs ls hR hS hL)
    · exact h.elim
  case ishr =>
    have hd := hd1 (fun a b c d h => by cases h)
    dsimp only [wpi] at h
    dsimp only [aEx] at hx
    split at h
    · exact fun H locs ls hR hS hL => lv_ishr hex hb hd (hn _ _ _ _ _ _ h H locs ls hR hS hL)
    · exact h.elim
  case ladd =>
    have hd := hd1 (fun a b c d h => by cases h)
    dsimp only [wpi] at h
    dsimp only [aEx] at hx
    split at h
    · exact fun H locs ls hR hS hL => lv_ladd hex hb hd (hn _ _ _ _ _ _ h H locs ls hR hS hL)
    · exact h.elim
  case lsub =>
    have hd := hd1 (fun a b c d h => by cases h)
    dsimp only [wpi] at h
    dsimp only [aEx] at hx
    split at h
    · exact fun H locs ls hR hS hL => lv_lsub hex hb hd (hn _ _ _ _ _ _ h H locs ls hR hS hL)
    · exact h.elim
  case lmul =>
    have hd := hd1 (fun a b c d h => by cases h)
    dsimp only [wpi] at h
    dsimp only [aEx] at hx
    split at h
    · exact fun H locs ls hR hS hL => lv_lmul hex hb hd (hn _ _ _ _ _ _ h H locs ls hR hS hL)
    · exact h.elim
  case land =>
    have hd := hd1 (fun a b c d h => by cases h)
    dsimp only [wpi] at h
    dsimp only [aEx] at hx
    split at h
    · exact fun H locs ls hR hS hL => lv_land hex hb hd (hn _ _ _ _ _ _ h H locs ls hR hS hL)
    · exact h.elim
  case lor =>
    have hd := hd1 (fun a b c d h => by cases h)
    dsimp only [wpi] at h
    dsimp only [aEx] at hx
    split at h
    · exact fun H locs ls hR hS hL => lv_lor hex hb hd (hn _ _ _ _ _ _ h H locs ls hR hS hL)
    · exact h.elim
  case lcmp =>
    have hd := hd1 (fun a b c d h => by cases h)
    dsimp only [wpi] at h
    dsimp only [aEx] at hx
    split at h
    · exact fun H locs ls hR hS hL => W.lcmp hex hb hd (hn _ _ _ _ _ _ h H locs ls hR hS hL)
    · exact h.elim
  case ineg =>
    have hd := hd1 (fun a b c d h => by cases h)
    dsimp only [wpi] at h
    dsimp only [aEx] at hx
    split at h
    · exact fun H locs ls hR hS hL => lv_ineg hex hb hd (hn _ _ _ _ _ _ h H locs ls hR hS hL)
    · exact h.elim
  case lneg =>
    have hd := hd1 (fun a b c d h => by cases h)
    dsimp only [wpi] at h
    dsimp only [aEx] at hx
    split at h
    · exact fun H locs ls hR hS hL => lv_lneg hex hb hd (hn _ _ _ _ _ _ h H locs ls hR hS hL)
    · exact h.elim
  case i2l =>
    have hd := hd1 (fun a b c d h => by cases h)
    dsimp only [wpi] at h
    dsimp only [aEx] at hx
    split at h
    · exact fun H locs ls hR hS hL => lv_i2l hex hb hd rfl (hn _ _ _ _ _ _ h H locs ls hR hS hL)
    · exact h.elim
  case l2i =>
    have hd := hd1 (fun a b c d h => by cases h)
    dsimp only [wpi] at h
    dsimp only [aEx] at hx
    split at h
    · exact fun H locs ls hR hS hL => lv_l2i hex hb hd rfl (hn _ _ _ _ _ _ h H locs ls hR hS hL)
    · exact h.elim
  case i2b =>
    have hd := hd1 (fun a b c d h => by cases h)
    dsimp only [wpi] at h
    dsimp only [aEx] at hx
    split at h
    · exact fun H locs ls hR hS hL => lv_i2b hex hb hd rfl (hn _ _ _ _ _ _ h H locs ls hR hS hL)
    · exact h.elim
  case i2s =>
    have hd := hd1 (fun a b c d h => by cases h)
    dsimp only [wpi] at h
    dsimp only [aEx] at hx
    split at h
    · exact fun H locs ls hR hS hL => lv_i2s hex hb hd rfl (hn _ _ _ _ _ _ h H locs ls hR hS hL)
    · exact h.elim
  case lshl =>
    have hd := hd1 (fun a b c d h => by cases h)
    dsimp only [wpi] at h
    dsimp only [aEx] at hx
    split at h
    · exact fun H locs ls hR hS hL => lv_lshl hex hb hd rfl (hn _ _ _ _ _ _ h H locs ls hR hS hL)
    · exact h.elim
  case lshr =>
    have hd := hd1 (fun a b c d h => by cases h)
    dsimp only [wpi] at h
    dsimp only [aEx] at hx
    split at h
    · exact fun H locs ls hR hS hL => lv_lshr hex hb hd rfl (hn _ _ _ _ _ _ h H locs ls hR hS hL)
    · exact h.elim
  case lushr =>
    have hd := hd1 (fun a b c d h => by cases h)
    dsimp only [wpi] at h
    dsimp only [aEx] at hx
    split at h
    · exact fun H locs ls hR hS hL => lv_lushr hex hb hd rfl (hn _ _ _ _ _ _ h H locs ls hR hS hL)
    · exact h.elim
  case idiv =>
    have hd := hd1 (fun a b c d h => by cases h)
    dsimp only [wpi] at h
    dsimp only [aEx] at hx
    split at h
    · exact fun H locs ls hR hS hL => lv_idiv hex hb hd h.1 (hn _ _ _ _ _ _ h.2 H locs ls hR hS hL)
    · exact h.elim
  case irem =>
    have hd := hd1 (fun a b c d h => by cases h)
    dsimp only [wpi] at h
    dsimp only [aEx] at hx
    split at h
    · exact fun H locs ls hR hS hL => lv_irem hex hb hd h.1 (hn _ _ _ _ _ _ h.2 H locs ls hR hS hL)
    · exact h.elim
  case ldiv =>
    have hd := hd1 (fun a b c d h => by cases h)
    dsimp only [wpi] at h
    dsimp only [aEx] at hx
    split at h
    · exact fun H locs ls hR hS hL => lv_ldiv hex hb hd h.1 (hn _ _ _ _ _ _ h.2 H locs ls hR hS hL)
    · exact h.elim
  case lrem =>
    have hd := hd1 (fun a b c d h => by cases h)
    dsimp only [wpi] at h
    dsimp only [aEx] at hx
    split at h
    · exact fun H locs ls hR hS hL => lv_lrem hex hb hd h.1 (hn _ _ _ _ _ _ h.2 H locs ls hR hS hL)
    · exact h.elim
  case iconst n =>
    have hd := hd1 (fun a b c d h => by cases h)
    dsimp only [wpi] at h
    dsimp only [aEx] at hx
    exact fun H locs ls hR hS hL => lv_iconst hex hb hd hx (hn _ _ _ _ _ _ h H locs ls hR hS hL)
  case bipush n =>
    have hd := hd1 (fun a b c d h => by cases h)
    dsimp only [wpi] at h
    dsimp only [aEx] at hx
    exact fun H locs ls hR hS hL => lv_bipush hex hb hd hx (hn _ _ _ _ _ _ h H locs ls hR hS hL)
  case sipush n =>
    have hd := hd1 (fun a b c d h => by cases h)
    dsimp only [wpi] at h
    dsimp only [aEx] at hx
    exact fun H locs ls hR hS hL => lv_sipush hex hb hd hx (hn _ _ _ _ _ _ h H locs ls hR hS hL)
  case lconst n =>
    have hd := hd1 (fun a b c d h => by cases h)
    dsimp only [wpi] at h
    dsimp only [aEx] at hx
    exact fun H locs ls hR hS hL => lv_lconst hex hb hd hx (hn _ _ _ _ _ _ h H locs ls hR hS hL)
  case ldc n =>
    have hd := hd1 (fun a b c d h => by cases h)
    dsimp only [wpi] at h
    dsimp only [aEx] at hx
    exact fun H locs ls hR hS hL => lv_ldc hex hb hown (hts _ hx) hd (hn _ _ _ _ _ _ h H locs ls hR hS hL)
  case ldc2_w n =>
    have hd := hd1 (fun a b c d h => by cases h)
    dsimp only [wpi] at h
    dsimp only [aEx] at hx
    exact fun H locs ls hR hS hL => lv_ldc2 hex hb hown (hts _ hx) hd (hn _ _ _ _ _ _ h H locs ls hR hS hL)
  case iload_n n =>
    have hd := hd1 (fun a b c d h => by cases h)
    dsimp only [wpi] at h
    dsimp only [aEx] at hx
    split at h
    · rename_i v hv
      exact fun H locs ls hR hS hL => lv_iload_n hex hb hd hx (lv_lget hL hv) (hn _ _ _ _ _ _ h H locs ls hR hS hL)
    · exact h.elim
  case lload_n n =>
    have hd := hd1 (fun a b c d h => by cases h)
    dsimp only [wpi] at h
    dsimp only [aEx] at hx
    split at h
    · rename_i v hv
      exact fun H locs ls hR hS hL => lv_lload_n hex hb hd hx (lv_lget hL hv) (hn _ _ _ _ _ _ h H locs ls hR hS hL)
    · exact h.elim
  case aload_n n =>
    have hd := hd1 (fun a b c d h => by cases h)
    dsimp only [wpi] at h
    dsimp only [aEx] at hx
    split at h
    · rename_i v hv
      exact fun H locs ls hR hS hL => lv_aload_n hex hb hd hx (lv_lget hL hv) (hn _ _ _ _ _ _ h H locs ls hR hS hL)
    · exact h.elim
  case iload n =>
    have hd := hd1 (fun a b c d h => by cases h)
    dsimp only [wpi] at h
    dsimp only [aEx] at hx
    subst hx
    split at h
    · rename_i v hv
      exact fun H locs ls hR hS hL => lv_iload hex hb hd (lv_lget hL hv) (hn _ _ _ _ _ _ h H locs ls hR hS hL)
    · exact h.elim
  case lload n =>
    have hd := hd1 (fun a b c d h => by cases h)
    dsimp only [wpi] at h
    dsimp only [aEx] at hx
    subst hx
    split at h
    · rename_i v hv
      exact fun H locs ls hR hS hL => lv_lload hex hb hd (lv_lget hL hv) (hn _ _ _ _ _ _ h H locs ls hR hS hL)
    · exact h.elim
  case aload n =>
    have hd := hd1 (fun a b c d h => by cases h)
    dsimp only [wpi] at h
    dsimp only [aEx] at hx
    subst hx
    split at h
    · rename_i v hv
      exact fun H locs ls hR hS hL => lv_aload hex hb hd (lv_lget hL hv) (hn _ _ _ _ _ _ h H locs ls hR hS hL)
    · exact h.elim
  case istore_n n =>
    have hd := hd1 (fun a b c d h => by cases h)
    dsimp only [wpi] at h
    dsimp only [aEx] at hx
    split at h
    · exact fun H locs ls hR hS hL => lv_istore_n hex hb hd hx.1 hL hx.2 rfl (fun ls' hl' => hn _ _ _ _ _ _ h H locs ls' hR hS (lv_put1 hl'))
    · exact h.elim
  case astore_n n =>
    have hd := hd1 (fun a b c d h => by cases h)
    dsimp only [wpi] at h
    dsimp only [aEx] at hx
    split at h
    · exact fun H locs ls hR hS hL => lv_astore_n hex hb hd hx.1 hL hx.2 rfl (fun ls' hl' => hn _ _ _ _ _ _ h H locs ls' hR hS (lv_put1 hl'))
    · exact h.elim
  case lstore_n n =>
    have hd := hd1 (fun a b c d h => by cases h)
    dsimp only [wpi] at h
    dsimp only [aEx] at hx
    split at h
    · exact fun H locs ls hR hS hL => lv_lstore_n hex hb hd hx.1 hL hx.2 rfl (fun ls' hl' => hn _ _ _ _ _ _ h H locs ls' hR hS (lv_put2 hl'))
    · exact h.elim
  case istore n =>
    have hd := hd1 (fun a b c d h => by cases h)
    dsimp only [wpi] at h
    dsimp only [aEx] at hx
    obtain ⟨rfl, hx⟩ := hx
    split at h
    · exact fun H locs ls hR hS hL => lv_istore hex hb hd hL hx rfl (fun ls' hl' => hn _ _ _ _ _ _ h H locs ls' hR hS (lv_put1 hl'))
    · exact h.elim
  case astore n =>
    have hd := hd1 (fun a b c d h => by cases h)
    dsimp only [wpi] at h
    dsimp only [aEx] at hx
    obtain ⟨rfl, hx⟩ := hx
    split at h
    · exact fun H locs ls hR hS hL => lv_astore hex hb hd hL hx rfl (fun ls' hl' => hn _ _ _ _ _ _ h H locs ls' hR hS (lv_put1 hl'))
    · exact h.elim
  case lstore n =>
    have hd := hd1 (fun a b c d h => by cases h)
    dsimp only [wpi] at h
    dsimp only [aEx] at hx
    obtain ⟨rfl, hx⟩ := hx
    split at h
    · exact fun H locs ls hR hS hL => lv_lstore hex hb hd hL hx rfl (fun ls' hl' => hn _ _ _ _ _ _ h H locs ls' hR hS (lv_put2 hl'))
    · exact h.elim
  case iinc k n =>
    have hd := hd1 (fun a b c d h => by cases h)
    dsimp only [wpi] at h
    dsimp only [aEx] at hx
    obtain ⟨rfl, hx⟩ := hx
    split at h
    · rename_i v hv
      intro H locs ls hR hS hL
      have hm := aAs_get L 0 k _ hv
      rw [Nat.zero_add] at hm
      obtain ⟨j, hj9⟩ := List.getElem?_of_mem hm
      exact lv_iinc hex hb hd hL hj9 rfl hx rfl (fun ls' hl' => hn _ _ _ _ _ _ h H locs ls' hR hS (lv_put1 hl'))
    · exact h.elim
  case dup =>
    have hd := hd1 (fun a b c d h => by cases h)
    dsimp only [wpi] at h
    dsimp only [aEx] at hx
    split at h
    · exact fun H locs ls hR hS hL => lv_dup hex hb hd (aCat1_eq h.1) (hn _ _ _ _ _ _ h.2 H locs ls hR hS hL)
    · exact h.elim
  case pop =>
    have hd := hd1 (fun a b c d h => by cases h)
    dsimp only [wpi] at h
    dsimp only [aEx] at hx
    split at h
    · exact fun H locs ls hR hS hL => lv_pop hex hb hd (aCat1_eq h.1) (hn _ _ _ _ _ _ h.2 H locs ls hR hS hL)
    · exact h.elim
  case dup2 =>
    have hd := hd1 (fun a b c d h => by cases h)
    dsimp only [wpi] at h
    dsimp only [aEx] at hx
    split at h
    · exact fun H locs ls hR hS hL => lv_dup2_11 hex hb hd (aCat1_eq h.1) (aCat1_eq h.2.1) (hn _ _ _ _ _ _ h.2.2 H locs ls hR hS hL)
    · exact h.elim
  case ifCond cd off =>
    have hd := hd1 (fun a b c d h => by cases h)
    dsimp only [wpi] at h
    dsimp only [aEx] at hx
    split at h
    · cases cd
      case eq => exact fun H locs ls hR hS hL => lv_if_eq hex hb hd hx (fun g => hj _ _ _ _ _ _ _ (h.1 g) H locs ls hR hS hL) (fun g => hj _ _ _ _ _ _ _ (h.2 g) H locs ls hR hS hL)
      case ne => exact fun H locs ls hR hS hL => lv_if_ne hex hb hd hx (fun g => hj _ _ _ _ _ _ _ (h.1 g) H locs ls hR hS hL) (fun g => hj _ _ _ _ _ _ _ (h.2 (fun k => k g)) H locs ls hR hS hL)
      case lt => exact fun H locs ls hR hS hL => lv_if_lt hex hb hd hx (fun g => hj _ _ _ _ _ _ _ (h.1 g) H locs ls hR hS hL) (fun g => hj _ _ _ _ _ _ _ (h.2 g) H locs ls hR hS hL)
      case ge => exact fun H locs ls hR hS hL => lv_if_ge hex hb hd hx (fun g => hj _ _ _ _ _ _ _ (h.1 g) H locs ls hR hS hL) (fun g => hj _ _ _ _ _ _ _ (h.2 g) H locs ls hR hS hL)
      case gt => exact fun H locs ls hR hS hL => lv_if_gt hex hb hd hx (fun g => hj _ _ _ _ _ _ _ (h.1 g) H locs ls hR hS hL) (fun g => hj _ _ _ _ _ _ _ (h.2 g) H locs ls hR hS hL)
      case le => exact fun H locs ls hR hS hL => lv_if_le hex hb hd hx (fun g => hj _ _ _ _ _ _ _ (h.1 g) H locs ls hR hS hL) (fun g => hj _ _ _ _ _ _ _ (h.2 g) H locs ls hR hS hL)
    · exact h.elim
  case if_icmp cd off =>
    have hd := hd1 (fun a b c d h => by cases h)
    dsimp only [wpi] at h
    dsimp only [aEx] at hx
    split at h
    · cases cd
      case eq => exact fun H locs ls hR hS hL => lv_icmp_eq hex hb hd hx (fun g => hj _ _ _ _ _ _ _ (h.1 g) H locs ls hR hS hL) (fun g => hj _ _ _ _ _ _ _ (h.2 g) H locs ls hR hS hL)
      case ne => exact fun H locs ls hR hS hL => lv_icmp_ne hex hb hd hx (fun g => hj _ _ _ _ _ _ _ (h.1 g) H locs ls hR hS hL) (fun g => hj _ _ _ _ _ _ _ (h.2 (fun k => k g)) H locs ls hR hS hL)
      case lt => exact fun H locs ls hR hS hL => lv_icmp_lt hex hb hd hx (fun g => hj _ _ _ _ _ _ _ (h.1 g) H locs ls hR hS hL) (fun g => hj _ _ _ _ _ _ _ (h.2 g) H locs ls hR hS hL)
      case ge => exact fun H locs ls hR hS hL => lv_icmp_ge hex hb hd hx (fun g => hj _ _ _ _ _ _ _ (h.1 g) H locs ls hR hS hL) (fun g => hj _ _ _ _ _ _ _ (h.2 g) H locs ls hR hS hL)
      case gt => exact fun H locs ls hR hS hL => lv_icmp_gt hex hb hd hx (fun g => hj _ _ _ _ _ _ _ (h.1 g) H locs ls hR hS hL) (fun g => hj _ _ _ _ _ _ _ (h.2 g) H locs ls hR hS hL)
      case le => exact fun H locs ls hR hS hL => lv_icmp_le hex hb hd hx (fun g => hj _ _ _ _ _ _ _ (h.1 g) H locs ls hR hS hL) (fun g => hj _ _ _ _ _ _ _ (h.2 g) H locs ls hR hS hL)
    · exact h.elim
  case goto off =>
    have hd := hd1 (fun a b c d h => by cases h)
    dsimp only [wpi] at h
    dsimp only [aEx] at hx
    exact fun H locs ls hR hS hL => lv_goto hex hb hd hx (hj _ _ _ _ _ _ _ h H locs ls hR hS hL)
  case getfield idx =>
    have hd := hd1 (fun a b c d h => by cases h)
    dsimp only [wpi] at h
    dsimp only [aEx] at hx
    split at h
    · split at h
      · rename_i a r ci fs ha
        obtain ⟨rfl, h⟩ := h
        split at h
        · rename_i v hv
          exact aI_get C hx hd ha hv (hn _ _ _ _ _ _ h)
        · exact h.elim
      · exact h.elim
    · exact h.elim
  case putfield idx =>
    have hd := hd1 (fun a b c d h => by cases h)
    dsimp only [wpi] at h
    dsimp only [aEx] at hx
    split at h
    · split at h
      · rename_i v a r ci fs ha
        obtain ⟨rfl, h1, h2, h⟩ := h
        exact aI_put C hx hd ha h1 h2 (hn _ _ _ _ _ _ h)
      · exact h.elim
    · exact h.elim
  case getstatic idx =>
    have hd := hd1 (fun a b c d h => by cases h)
    dsimp only [wpi] at h
    dsimp only [aEx] at hx
    exact aI_gets C hx hd (by rw [← hE8]; exact hn _ _ _ _ _ _ h)
  case iaload =>
    have hd := hd1 (fun a b c d h => by cases h)
    dsimp only [wpi] at h
    dsimp only [aEx] at hx
    split at h
    · split at h
      · rename_i i a r t n f ha
        exact aI_iald C ha h.1 h.2.1 hd (hn _ _ _ _ _ _ h.2.2)
      · exact h.elim
    · exact h.elim
  case baload =>
    have hd := hd1 (fun a b c d h => by cases h)
    dsimp only [wpi] at h
    dsimp only [aEx] at hx
    split at h
    · split at h
      · rename_i i a r t n f ha
        obtain ⟨rfl, h1, h2⟩ := h
        exact aI_bald C ha h1 hd (hn _ _ _ _ _ _ h2)
      · exact h.elim
    · exact h.elim
  case laload =>
    have hd := hd1 (fun a b c d h => by cases h)
    dsimp only [wpi] at h
    dsimp only [aEx] at hx
    split at h
    · split at h
      · rename_i i a r t n f ha
        obtain ⟨rfl, h1, h2⟩ := h
        exact aI_lald C ha h1 hd (hn _ _ _ _ _ _ h2)
      · exact h.elim
    · exact h.elim
  case aaload =>
    have hd := hd1 (fun a b c d h => by cases h)
    dsimp only [wpi] at h
    dsimp only [aEx] at hx
    split at h
    · split at h
      · rename_i i a r t n f ha
        obtain ⟨rfl, h1, h2⟩ := h
        exact aI_aald C ha h1 hd (hn _ _ _ _ _ _ h2)
      · exact h.elim
    · exact h.elim
  case iastore =>
    have hd := hd1 (fun a b c d h => by cases h)
    dsimp only [wpi] at h
    dsimp only [aEx] at hx
    split at h
    · split at h
      · rename_i v i a r t n f ha
        obtain ⟨rfl, h1, h2⟩ := h
        exact aI_iast C ha h1 hd (hn _ _ _ _ _ _ h2)
      · exact h.elim
    · exact h.elim
  case bastore =>
    have hd := hd1 (fun a b c d h => by cases h)
    dsimp only [wpi] at h
    dsimp only [aEx] at hx
    split at h
    · split at h
      · rename_i v i a r t n f ha
        obtain ⟨rfl, h1, h2⟩ := h
        exact aI_bast C ha h1 hd (hn _ _ _ _ _ _ h2)
      · exact h.elim
    · exact h.elim
  case lastore =>
    have hd := hd1 (fun a b c d h => by cases h)
    dsimp only [wpi] at h
    dsimp only [aEx] at hx
    split at h
    · split at h
      · rename_i v i a r t n f ha
        obtain ⟨rfl, h1, h2⟩ := h
        exact aI_last C ha h1 hd (hn _ _ _ _ _ _ h2)
      · exact h.elim
    · exact h.elim
  case aastore =>
    have hd := hd1 (fun a b c d h => by cases h)
    dsimp only [wpi] at h
    dsimp only [aEx] at hx
    split at h
    · split at h
      · rename_i v i a r t n f ha
        obtain ⟨rfl, h1, ⟨fs, h3⟩, h2⟩ := h
        exact aI_aast C ha h1 h3 hd (hn _ _ _ _ _ _ h2)
      · exact h.elim
    · exact h.elim
  case arraylength =>
    have hd := hd1 (fun a b c d h => by cases h)
    dsimp only [wpi] at h
    dsimp only [aEx] at hx
    split at h
    · split at h
      · rename_i a r t n f ha
        exact aI_alen C ha hd (hn _ _ _ _ _ _ h)
      · exact h.elim
    · exact h.elim
  case invokevirtual idx =>
    have hd := hd1 (fun a b c d h => by cases h)
    dsimp only [wpi] at h
    dsimp only [aEx] at hx
    obtain ⟨hx9, Post, PostX, mc, ms, h1, h2, h3, h4⟩ := h
    have h5 := hE1 _ _ _ _ _ _ _ _ _ _ h1 pc L (st.drop x) hd h2 (fun v O' A' hq => hn _ _ _ _ _ _ (h3 v O' A' hq)) (fun n O' A' hq => hE6 _ _ _ _ _ _ _ _ (h4 n O' A' hq))
    rw [List.reverse_reverse, List.take_append_drop] at h5
    exact h5
  case invokestatic idx =>
    have hd := hd1 (fun a b c d h => by cases h)
    dsimp only [wpi] at h
    dsimp only [aEx] at hx
    obtain ⟨hx9, Post, PostX, mc, ms, h1, h2, h3, h4⟩ := h
    have h5 := hE1 _ _ _ _ _ _ _ _ _ _ h1 pc L (st.drop x) hd h2 (fun v O' A' hq => hn _ _ _ _ _ _ (h3 v O' A' hq)) (fun n O' A' hq => hE6 _ _ _ _ _ _ _ _ (h4 n O' A' hq))
    rw [List.reverse_reverse, List.take_append_drop] at h5
    exact h5
  case invokespecial idx =>
    have hd := hd1 (fun a b c d h => by cases h)
    dsimp only [wpi] at h
    dsimp only [aEx] at hx
    obtain ⟨hx9, Post, PostX, mc, ms, h1, h2, h3, h4⟩ := h
    have h5 := hE1 _ _ _ _ _ _ _ _ _ _ h1 pc L (st.drop x) hd h2 (fun v O' A' hq => hn _ _ _ _ _ _ (h3 v O' A' hq)) (fun n O' A' hq => hE6 _ _ _ _ _ _ _ _ (h4 n O' A' hq))
    rw [List.reverse_reverse, List.take_append_drop] at h5
    exact h5
  case new idx =>
    have hd := hd1 (fun a b c d h => by cases h)
    dsimp only [wpi] at h
    dsimp only [aEx] at hx
    match z, hx, h with
    | 0, hx, h =>
      obtain ⟨h1, h2, h3⟩ := h
      exact aI_new C (hx rfl) hd (by rw [← hE9]; exact h1) (by rw [← hE10]; exact h2) (fun q hq hq2 => hn _ _ _ _ _ _ (h3 q hq hq2))
    | z + 1, hx, h => exact hE7 _ _ _ _ _ _ _ _ h
  case newarray ty =>
    have hd := hd1 (fun a b c d h => by cases h)
    dsimp only [wpi] at h
    dsimp only [aEx] at hx
    split at h
    · obtain ⟨N, h1, h2, h3, h4, h5⟩ := h
      exact aI_newa C hx hd h1 h2 (by rw [← hE9]; exact h3) (by rw [← hE10]; exact h4) (fun q hq hq2 => hn _ _ _ _ _ _ (h5 q hq hq2))
    · exact h.elim
  case anewarray idx =>
    have hd := hd1 (fun a b c d h => by cases h)
    dsimp only [wpi] at h
    dsimp only [aEx] at hx
    split at h
    · obtain ⟨N, h1, h2, h3, h4, h5⟩ := h
      exact aI_anew C hx hd h1 h2 (by rw [← hE9]; exact h3) (by rw [← hE10]; exact h4) (fun q hq hq2 => hn _ _ _ _ _ _ (h5 q hq hq2))
    · exact h.elim
  case ireturn =>
    have hd := hd1 (fun a b c d h => by cases h)
    dsimp only [wpi] at h
    dsimp only [aEx] at hx
    split at h
    · obtain ⟨⟨ty, h1, h2⟩, h3⟩ := h; exact hE2 _ _ _ _ _ _ _ _ hd h1 h2 h3
    · exact h.elim
  case lreturn =>
    have hd := hd1 (fun a b c d h => by cases h)
    dsimp only [wpi] at h
    dsimp only [aEx] at hx
    split at h
    · exact hE3 _ _ _ _ _ _ _ hd h.1 h.2
    · exact h.elim
  case areturn =>
    have hd := hd1 (fun a b c d h => by cases h)
    dsimp only [wpi] at h
    dsimp only [aEx] at hx
    split at h
    · obtain ⟨⟨n, h1⟩, h3⟩ := h; exact hE4 _ _ _ _ _ _ _ _ hd h1 h3
    · exact h.elim
  case return_ =>
    have hd := hd1 (fun a b c d h => by cases h)
    dsimp only [wpi] at h
    dsimp only [aEx] at hx
    split at h
    · exact hE5 _ _ _ _ _ _ hd h.1 h.2
    · exact h.elim
  all_goals (exact (show False from h).elim)
theorem wpl_ok (C : aCx G base tA own cc nL ini p s m args meth c) {E : aE} (hE : aEnv p l e R s m args below meth c Q G base tA cc nL E) {jmp : aK0} (hj : ∀ pc L st O A nc ns, jmp pc L st O A nc ns → aW p l e R s m args below meth c Q G base nL pc L st O A nc ns) :
    ∀ (is : List aIn) (pc : Nat) (L : aL) (st : List Value) (O : aO) (A : aA) (nc ns : Nat), aBlk own cc nL ini pc is → wpl E jmp is pc L st O A nc ns → aW p l e R s m args below meth c Q G base nL pc L st O A nc ns
  | [], pc, L, st, O, A, nc, ns, _, h => hj pc L st O A nc ns h
  | (i, x, y, z, ts) :: r, pc, L, st, O, A, nc, ns, hB, h =>
    wpi_ok C hE hj (fun L st O A nc ns h9 => wpl_ok C hE hj r _ L st O A nc ns hB.2.2 h9) hB.1 hB.2.1 h
theorem wp_ok (C : aCx G base tA own cc nL ini p s m args meth c) {E : aE} (hE : aEnv p l e R s m args below meth c Q G base tA cc nL E) {B : Nat → Option (List aIn)} (hB : ∀ pc is, B pc = some is → aBlk own cc nL ini pc is) {K : Nat → Option aKc}
    (hK : ∀ pc P, K pc = some P → ∀ L st O A nc ns, P L st O A nc ns → aW p l e R s m args below meth c Q G base nL pc L st O A nc ns) :
    ∀ (n pc : Nat) (L : aL) (st : List Value) (O : aO) (A : aA) (nc ns : Nat), wp E B K n pc L st O A nc ns → aW p l e R s m args below meth c Q G base nL pc L st O A nc ns
  | 0, _, _, _, _, _, _, _, h => h.elim
  | n + 1, pc, L, st, O, A, nc, ns, h => by
    unfold wp at h
    split at h
    · rename_i P hP
      exact hK pc P hP L st O A nc ns h
    · split at h
      · rename_i is his
        exact wpl_ok C hE (wp_ok C hE hB hK n) is pc L st O A nc ns (hB pc is his) h
      · exact h.elim
theorem wp1_ok (C : aCx G base tA own cc nL ini p s m args meth c) {E : aE} (hE : aEnv p l e R s m args below meth c Q G base tA cc nL E) {B : Nat → Option (List aIn)} (hB : ∀ pc is, B pc = some is → aBlk own cc nL ini pc is) {K : Nat → Option aKc}
    (hK : ∀ pc P, K pc = some P → ∀ L st O A nc ns, P L st O A nc ns → aW p l e R s m args below meth c Q G base nL pc L st O A nc ns) (n : Nat) (h : wp1 E B K n pc L st O A nc ns) : aW p l e R s m args below meth c Q G base nL pc L st O A nc ns := by
  unfold wp1 at h
  split at h
  · rename_i is his
    exact wpl_ok C hE (wp_ok C hE hB hK n) is pc L st O A nc ns (hB pc is his) h
  · exact h.elim
end SND4
end
section
section MET
variable {l : Launch} {G : aG} {base tA : Nat}
/-- a method's start: its arguments as locals -/
def aArgs : List Value → Nat → aL
  | [], n => List.replicate n none
  | .long v :: r, n => some (.long v) :: none :: aArgs r (n - 2)
  | .double v :: r, n => some (.double v) :: none :: aArgs r (n - 2)
  | v :: r, n => some v :: aArgs r (n - 1)
theorem aAs_rep : ∀ (n k : Nat), aAs k (List.replicate n none) = []
  | 0, _ => rfl
  | n + 1, k => aAs_rep n (k + 1)
theorem aAs_args : ∀ (av : List Value) (n k : Nat), aAs k (aArgs av n) = lv_args k av
  | [], n, k => aAs_rep n k
  | .long v :: r, n, k => by simp only [aArgs, aAs, lv_args, Value.category]; rw [aAs_args r (n - 2) (k + 1 + 1)]; rfl
  | .double v :: r, n, k => by simp only [aArgs, aAs, lv_args, Value.category]; rw [aAs_args r (n - 2) (k + 1 + 1)]; rfl
  | .int v :: r, n, k => by simp only [aArgs, aAs, lv_args, Value.category]; rw [aAs_args r (n - 1) (k + 1)]; rfl
  | .float v :: r, n, k => by simp only [aArgs, aAs, lv_args, Value.category]; rw [aAs_args r (n - 1) (k + 1)]; rfl
  | .null :: r, n, k => by simp only [aArgs, aAs, lv_args, Value.category]; rw [aAs_args r (n - 1) (k + 1)]; rfl
  | .ref v :: r, n, k => by simp only [aArgs, aAs, lv_args, Value.category]; rw [aAs_args r (n - 1) (k + 1)]; rfl
  | .retAddr v :: r, n, k => by simp only [aArgs, aAs, lv_args, Value.category]; rw [aAs_args r (n - 1) (k + 1)]; rfl
/-- what the proof of a body has: its calls, its return, and J, the machine at a place -/
def aBody (l : Launch) (G : aG) (base tA : Nat) (own : String) (R : Room) (ret : Option FieldType) (B : Nat → Option (List aIn)) (Post : aPost) (E : aE) (J : aK0) : Prop :=
  (∀ (K : Nat → Option aKc) (n pc : Nat) (L : aL) (st : List Value) (O : aO) (A : aA) (nc ns : Nat), (∀ pc P, K pc = some P → ∀ L st O A nc ns, P L st O A nc ns → J pc L st O A nc ns) → wp1 E B K n pc L st O A nc ns → J pc L st O A nc ns) ∧
  (∀ {idx ci b mxL n nc ns : Nat} {y : MethodName} {cy : ByteArray} {rt : Option FieldType} {rm : Room} {As fs : List Value} {O : aO} {A : aA} {Po : aPost}, aLkV own idx ci y cy mxL n rt → aMet l G base tA y cy mxL rt rm (.ref b :: As) O A Po → As.length = n → O b = some (ci, fs) → (rm.frames + 1 ≤ R.frames ∧ 8 + (mxL + 11) + rm.locals ≤ R.locals) → nc + rm.cells ≤ R.cells → ns + rm.slots ≤ R.slots → eCall E (.invokevirtual idx) (.ref b :: As) O A nc ns rm.cells rm.slots Po (fun _ _ _ => False)) ∧
  (∀ {idx mxL n nc ns : Nat} {y : MethodName} {cy : ByteArray} {rt : Option FieldType} {rm : Room} {As : List Value} {O : aO} {A : aA} {Po : aPost}, aLkS own idx y cy mxL n rt → aMet l G base tA y cy mxL rt rm As O A Po → As.length = n → (rm.frames + 1 ≤ R.frames ∧ 8 + (mxL + 11) + rm.locals ≤ R.locals) → nc + rm.cells ≤ R.cells → ns + rm.slots ≤ R.slots → eCall E (.invokestatic idx) As O A nc ns rm.cells rm.slots Po (fun _ _ _ => False)) ∧
  (∀ {idx b mxL n nc ns : Nat} {y : MethodName} {cy : ByteArray} {rm : Room} {As : List Value} {O : aO} {A : aA} {Po : aPost}, aLkI own idx y cy mxL n → aMet l G base tA y cy mxL none rm (.ref b :: As) O A Po → As.length = n → (rm.frames + 1 ≤ R.frames ∧ 8 + (mxL + 11) + rm.locals ≤ R.locals) → nc + rm.cells ≤ R.cells → ns + rm.slots ≤ R.slots → eCall E (.invokespecial idx) (.ref b :: As) O A nc ns rm.cells rm.slots Po (fun _ _ _ => False)) ∧
  (∀ {idx b nc ns : Nat} {O : aO} {A : aA}, Cond.methodLink own idx Lib.objectInit ∈ aT → 1 ≤ R.frames → 20 ≤ R.locals → eCall E (.invokespecial idx) [.ref b] O A nc ns 0 0 (fun v O' A' => v = none ∧ O' = O ∧ A' = A) (fun _ _ _ => False)) ∧
  (∀ v O A nc ns, Post v O A → nc ≤ R.cells → ns ≤ R.slots → eRet E v O A nc ns) ∧
  eTA E = tA ∧ eRt E = ret ∧ eRc E = R.cells ∧ eRs E = R.slots
theorem aT_objInit : Cond.instanceMethod Lib.objectInit ∈ aT ∧ Cond.code Lib.objectInit ⟨#[0xb1]⟩ 1 none ∈ aT := by
  constructor
  · exact List.mem_filter.mpr ⟨by decide +kernel, by decide +kernel⟩
  · exact List.mem_filter.mpr ⟨by decide +kernel, by decide +kernel⟩
set_option maxHeartbeats 1000000 in
theorem aMet_of {y : MethodName} {cc : ByteArray} {nL : Nat} {ini : Bool} {ret : Option FieldType} {rm : Room} {av : List Value} {O : aO} {A : aA} {Post : aPost} {B : Nat → Option (List aIn)} (hy : plainName y.cls = true) (hini : ini = true → y.name = "<init>") (hav : (lg_sl av).length ≤ nL)
    (hB : ∀ pc is, B pc = some is → aBlk y.cls cc nL ini pc is) (body : ∀ (E : aE) (J : aK0), aBody l G base tA y.cls rm ret B Post E J → J 0 (aArgs av nL) [] O A 0 0) : aMet l G base tA y cc nL ret rm av O A Post := by
  refine Met.ofW (cc := cc) (maxL := nL) (ret := ret) hy rfl ?_
  intro p e s m args below meth c s₁ Bd hml hv
  obtain ⟨rfl, hR, hK, hst, hstr⟩ := hv
  have hx := Bd.exec
  have hb := Bd.bytes
  have hr := Bd.returns
  have hts := atoms_spec (ws := aWs y cc nL ret) Bd.pre
  have hown : s.vm.findClass y.cls = some m.cls := findClass_of_methodNamed Bd.named
  have hlocks := Bd.notSynchronized
  have hnm : meth.name = y.name := (name_of_methodNamed Bd.named Bd.method).1
  have hT : ∀ w ∈ aT, w.before av.toArray s = true := fun w hw => hts w (List.mem_cons_of_mem _ hw)
  have C : aCx G base tA y.cls cc nL ini p s m av.toArray meth c := ⟨hx, hb, hml, hown, hT, hK, hst, hstr, fun h => by rw [hnm]; exact hini h, hR.1, hlocks⟩
  have hS : va_S (fun q => base ≤ q) s.heap s.heap [] := va_S.rf
  have hl := lv_entry av (n := nL) hav
  rw [lg_entry_eq]
  rw [← aAs_args av nL 0] at hl
  have fin : ∀ {v : Option Value} {O' : aO} {A' : aA} {H : Heap} {locs : List Loc}, aRel G base O' A' H → va_S (fun q => base ≤ q) s.heap H locs → Post v O' A' → ∀ t : State, t.heap = H → s.WarmedH t.vm → aQc G base tA Post av.toArray s (.returned v) t :=
    fun hR' hS' hp t ht hW => ⟨⟨_, _, _, rfl, hp, aGood_at C hR' hS' ht hW⟩, hS'.F ht⟩
  obtain ⟨Q, hQ⟩ : ∃ Q, Q = MQ below (aQc G base tA Post) av.toArray s rm.cells rm.slots (fun q => base ≤ q) := ⟨_, rfl⟩
  show W p l e rm s m av.toArray below meth c s.heap [] 0 0 (MQ below (aQc G base tA Post) av.toArray s rm.cells rm.slots (fun q => base ≤ q)) _
  rw [← hQ]
  let E : aE := (fun i av' O A nc ns mc ms Po PoX => aCallOK p l e rm s m av.toArray below meth c Q G base cc nL i av' O A nc ns mc ms Po PoX, fun v O A nc ns => Post v O A ∧ nc ≤ rm.cells ∧ ns ≤ rm.slots, fun _ _ _ _ _ _ _ _ => False, fun _ _ _ _ _ _ _ _ => False, tA, ret, rm.cells, rm.slots)
  have hE : aEnv p l e rm s m av.toArray below meth c Q G base tA cc nL E := by
    refine ⟨fun _ _ _ _ _ _ _ _ _ _ h => h, ?_, ?_, ?_, ?_, fun _ _ _ _ _ _ _ _ h => False.elim h, fun _ _ _ _ _ _ _ _ h => False.elim h, rfl, rfl, rfl⟩
    · intro pc L v ty O A nc ns hd hrt hnar hp H locs ls hR' hS' hL'
      rw [hQ]
      refine W.widen (k := rm.cells) (n := rm.slots) hp.2.1 hp.2.2 ?_
      exact W.zret hx hb (hr.trans hrt) hnar (fin hR' hS' hp.1) hS'.2.2 hd
    · intro pc L v O A nc ns hd hrt hp H locs ls hR' hS' hL'
      rw [hQ]
      refine W.widen (k := rm.cells) (n := rm.slots) hp.2.1 hp.2.2 ?_
      exact W.lret hx hb (hr.trans hrt) (fin hR' hS' hp.1) hS'.2.2 hd
    · intro pc L v n O A nc ns hd hrt hp H locs ls hR' hS' hL'
      rw [hQ]
      refine W.widen (k := rm.cells) (n := rm.slots) hp.2.1 hp.2.2 ?_
      exact W.aret hx hb (hr.trans hrt) (Or.inl ⟨_, rfl⟩) (Or.inr ⟨_, rfl⟩) (fin hR' hS' hp.1) hS'.2.2 hd
    · intro pc L O A nc ns hd hrt hp H locs ls hR' hS' hL'
      rw [hQ]
      refine W.widen (k := rm.cells) (n := rm.slots) hp.2.1 hp.2.2 ?_
      exact W.vret hx hb (hr.trans hrt) (fin hR' hS' hp.1) hS'.2.2 hd
  refine body E (aW p l e rm s m av.toArray below meth c Q G base nL) ⟨?_, ?_, ?_, ?_, ?_, ?_, rfl, rfl, rfl, rfl⟩ s.heap [] _ hR hS hl
  · intro K n pc L st O A nc ns hKK h
    exact wp1_ok C hE hB hKK n h
  · intro idx ci b mxL n nc ns y' cy rt rm' As fs O A Po h1 h2 h3 h4 h5 h6 h7 pc L st hd h9 hk _
    have := aI_callV C (Q := Q) (R := rm) (e := e) (below := below) h1 h2 h3 h4 h5 h6 h7 h9 hd hk
    simpa using this
  · intro idx mxL n nc ns y' cy rt rm' As O A Po h1 h2 h3 h5 h6 h7 pc L st hd h9 hk _
    exact aI_callS C (Q := Q) (R := rm) (e := e) (below := below) h1 h2 h3 h5 h6 h7 h9 hd hk
  · intro idx b mxL n nc ns y' cy rm' As O A Po h1 h2 h3 h5 h6 h7 pc L st hd h9 hk _
    have := aI_callI C (Q := Q) (R := rm) (e := e) (below := below) h1 h2 h3 h5 h6 h7 h9 hd hk
    simpa using this
  · intro idx b nc ns O A h1 h2 h3 pc L st hd h9 hk _ H locs ls hR' hS' hL'
    have h8 := aWords h9
    exact W.objInit hx hb hown (hT _ h1) (hT _ aT_objInit.1) (hT _ aT_objInit.2) rfl (hL'.1.trans hml.symm) rfl hd h2 (by show 0 + (st.map fun v => v.category).sum + 12 ≤ rm.locals; omega) (hk none O A ⟨rfl, rfl, rfl⟩ H locs ls hR' hS' hL')
  · intro v O A nc ns h1 h2 h3
    exact ⟨h1, h2, h3⟩
end MET
/-! ===== the code, block by block, checked by a program ===== -/
def aLook : List (Nat × List aIn) → Nat → Option (List aIn)
  | [], _ => none
  | (k, is) :: r, pc => if pc = k then some is else aLook r pc
def aTsw : Instr → Bool
  | .tableswitch _ _ _ _ => true
  | _ => false
def aIsIn (q : aIn) (lk : List aIn) : Bool := lk.any (fun p => decide (p = q))
theorem aIsIn_ok {q : aIn} {lk : List aIn} (h : aIsIn q lk = true) : q ∈ lk := by
  obtain ⟨p, h1, h2⟩ := List.any_eq_true.mp h
  rw [← of_decide_eq_true h2]; exact h1
def aExB (nL : Nat) (lk : List aIn) (pc : Nat) (q : aIn) : Bool :=
  match q.1 with
  | .iconst n => decide (Int32.ofInt n = aV q.2.1 q.2.2.1)
  | .bipush n => decide ((Int8.ofInt n).toInt32 = aV q.2.1 q.2.2.1)
  | .sipush n => decide ((Int16.ofInt n).toInt32 = aV q.2.1 q.2.2.1)
  | .lconst n => decide (Int64.ofNat (n : Nat) = aVl q.2.1 q.2.2.1)
  | .iload_n k => decide ((k : Nat) = q.2.1)
  | .lload_n k => decide ((k : Nat) = q.2.1)
  | .aload_n k => decide ((k : Nat) = q.2.1)
  | .iload k => decide (k = q.2.1)
  | .lload k => decide (k = q.2.1)
  | .aload k => decide (k = q.2.1)
  | .istore_n k => decide ((k : Nat) = q.2.1 ∧ q.2.1 < nL)
  | .astore_n k => decide ((k : Nat) = q.2.1 ∧ q.2.1 < nL)
  | .lstore_n k => decide ((k : Nat) = q.2.1 ∧ q.2.1 + 1 < nL)
  | .istore k => decide (k = q.2.1 ∧ q.2.1 < nL)
  | .astore k => decide (k = q.2.1 ∧ q.2.1 < nL)
  | .lstore k => decide (k = q.2.1 ∧ q.2.1 + 1 < nL)
  | .iinc k _ => decide (k = q.2.1 ∧ q.2.1 < nL)
  | .ifCond _ off => decide ((pc : Int) + off = (q.2.1 : Int))
  | .if_icmp _ off => decide ((pc : Int) + off = (q.2.1 : Int))
  | .goto off => decide ((pc : Int) + off = (q.2.1 : Int))
  | .tableswitch d lo hi offs => decide ((pc : Int) + d = (q.2.2.1 : Int) ∧ lo = (q.2.1 : Int) ∧ hi + 1 = (q.2.1 : Int) + q.2.2.2.2.length ∧ q.2.1 + q.2.2.2.2.length < 65536 ∧ offs.toList.map (fun o => (pc : Int) + o) = q.2.2.2.2.map Int.ofNat)
  | .new _ => q.2.2.2.1 != 0 || aIsIn q lk
  | .ldc _ => aIsIn q lk
  | .ldc2_w _ => aIsIn q lk
  | .getfield _ => aIsIn q lk
  | .putfield _ => aIsIn q lk
  | .getstatic _ => aIsIn q lk
  | .newarray _ => aIsIn q lk
  | .anewarray _ => aIsIn q lk
  | _ => true
def aChk (cc : ByteArray) (nL : Nat) (lk : List aIn) : Nat → List aIn → Bool
  | _, [] => true
  | pc, q :: r => (match decode cc pc with | .ok (i, n) => decide (i = q.1) && (n == aLen q.1 || aTsw q.1) | _ => false) && (aExB nL lk pc q && aChk cc nL lk (pc + aLen q.1) r)
theorem aTg_of (pc : Nat) : ∀ (os : List Int) (ts : List Nat), os.map (fun o => (pc : Int) + o) = ts.map Int.ofNat → aTg pc os ts
  | [], [], _ => trivial
  | [], _ :: _, h => by simp at h
  | _ :: _, [], h => by simp at h
  | o :: r, t :: r', h => by
    simp only [List.map_cons, List.cons.injEq] at h
    exact ⟨h.1, aTg_of pc r r' h.2⟩
set_option maxRecDepth 20000 in
theorem aExB_ok {own : String} {nL : Nat} {ini : Bool} {lk : List aIn} (hlk : ∀ q ∈ lk, ∀ pc, aEx own nL ini pc q.1 q.2.1 q.2.2.1 q.2.2.2.1 q.2.2.2.2) {pc : Nat} {q : aIn} (h : aExB nL lk pc q = true) : aEx own nL ini pc q.1 q.2.1 q.2.2.1 q.2.2.2.1 q.2.2.2.2 := by
  obtain ⟨i, x, y, z, ts⟩ := q
  cases i
  case tableswitch d lo hi offs =>
    have h := of_decide_eq_true h
    exact ⟨h.1, h.2.1, h.2.2.1, h.2.2.2.1, aTg_of pc _ _ h.2.2.2.2⟩
  case new idx =>
    intro hz
    have hz : z = 0 := hz
    subst hz
    have h : aIsIn (Instr.new idx, x, y, 0, ts) lk = true := by simpa [aExB] using h
    exact hlk _ (aIsIn_ok h) pc rfl
  all_goals first | (dsimp only [aExB] at h; dsimp only [aEx]; exact of_decide_eq_true h) | exact hlk _ (aIsIn_ok h) pc | exact trivial
theorem aChk_ok {own : String} {cc : ByteArray} {nL : Nat} {ini : Bool} {lk : List aIn} (hlk : ∀ q ∈ lk, ∀ pc, aEx own nL ini pc q.1 q.2.1 q.2.2.1 q.2.2.2.1 q.2.2.2.2) : ∀ (is : List aIn) (pc : Nat), aChk cc nL lk pc is = true → aBlk own cc nL ini pc is
  | [], _, _ => trivial
  | q :: r, pc, h => by
    obtain ⟨i, x, y, z, ts⟩ := q
    unfold aChk at h
    simp only [Bool.and_eq_true] at h
    obtain ⟨h1, h2, h3⟩ := h
    refine ⟨?_, aExB_ok hlk h2, aChk_ok hlk r _ h3⟩
    split at h1
    · rename_i i' n hd
      simp only [Bool.and_eq_true, decide_eq_true_eq, Bool.or_eq_true, beq_iff_eq] at h1
      obtain ⟨rfl, h1⟩ := h1
      refine ⟨n, hd, ?_⟩
      rcases h1 with h1 | h1
      · exact Or.inl h1
      · right
        cases i' <;> first | exact ⟨_, _, _, _, rfl⟩ | (simp [aTsw] at h1)
    · simp at h1
theorem aLook_mem {bk : List (Nat × List aIn)} {pc : Nat} {is : List aIn} (h : aLook bk pc = some is) : (pc, is) ∈ bk := by
  induction bk with
  | nil => cases h
  | cons q r ih =>
    obtain ⟨k, js⟩ := q
    unfold aLook at h
    split at h
    · rename_i e
      cases h
      rw [e]; exact List.mem_cons_self
    · exact List.mem_cons_of_mem _ (ih h)
theorem aBks_ok {own : String} {cc : ByteArray} {nL : Nat} {ini : Bool} {lk : List aIn} (hlk : ∀ q ∈ lk, ∀ pc, aEx own nL ini pc q.1 q.2.1 q.2.2.1 q.2.2.2.1 q.2.2.2.2) {bk : List (Nat × List aIn)} (h : bk.all (fun q => aChk cc nL lk q.1 q.2) = true) : ∀ pc is, aLook bk pc = some is → aBlk own cc nL ini pc is :=
  fun pc is hl => aChk_ok hlk is pc (List.all_eq_true.mp h _ (aLook_mem hl))
theorem aAll {ws : List Cond} (h : ws.all (fun w => lw_tbl.any (fun v => decide (v = w)) && goodWord w) = true) : ∀ w ∈ ws, w ∈ aT := by
  intro w hw
  have h1 := List.all_eq_true.mp h w hw
  simp only [Bool.and_eq_true] at h1
  obtain ⟨v, h2, h3⟩ := List.any_eq_true.mp h1.1
  rw [of_decide_eq_true h3] at h2
  exact List.mem_filter.mpr ⟨h2, h1.2⟩
end
section
/-! links: fields, constants, made things (printed by gen.py) -/
theorem inT_X0 : ∀ w ∈ u_ws RX0 TX0 4, w ∈ aT := aAll (by decide +kernel)
theorem inT_X2 : ∀ w ∈ u_ws RX2 TX2 3, w ∈ aT := aAll (by decide +kernel)
theorem inT_X3 : ∀ w ∈ u_ws RX3 TX3 2, w ∈ aT := aAll (by decide +kernel)
theorem inT_X4 : ∀ w ∈ u_ws RX4 TX4 5, w ∈ aT := aAll (by decide +kernel)
theorem inT_X5 : ∀ w ∈ u_ws RX5 TX5 1, w ∈ aT := aAll (by decide +kernel)
theorem inT_X6 : ∀ w ∈ u_ws RX6 TX6 6, w ∈ aT := aAll (by decide +kernel)
theorem inT_X8 : ∀ w ∈ u_ws RX8 TX8 8, w ∈ aT := aAll (by decide +kernel)
theorem inT_X9 : ∀ w ∈ u_ws RX9 TX9 14, w ∈ aT := aAll (by decide +kernel)
theorem inT_X7 : ∀ w ∈ u_ws RX7 TX7 0, w ∈ aT := aAll (by decide +kernel)
theorem flX8_11 : aFl RX8 11 9 0 2 := ⟨RX8, TX8, 8, tyX8, rfl, by decide, aT_mem 208 (by decide +kernel) rfl, inT_X8, tyX8_ok, nmX8, Or.inr (Or.inr ⟨rfl, Or.inr ⟨_, rfl⟩⟩)⟩
theorem flX8_18 : aFl RX8 18 9 2 2 := ⟨RX8, TX8, 8, tyX8, rfl, by decide, aT_mem 210 (by decide +kernel) rfl, inT_X8, tyX8_ok, nmX8, Or.inr (Or.inr ⟨rfl, Or.inl ⟨_, rfl⟩⟩)⟩
theorem flX8_25 : aFl RX8 25 9 3 2 := ⟨RX8, TX8, 8, tyX8, rfl, by decide, aT_mem 211 (by decide +kernel) rfl, inT_X8, tyX8_ok, nmX8, Or.inr (Or.inr ⟨rfl, Or.inl ⟨_, rfl⟩⟩)⟩
theorem flX8_32 : aFl RX8 32 9 4 2 := ⟨RX8, TX8, 8, tyX8, rfl, by decide, aT_mem 212 (by decide +kernel) rfl, inT_X8, tyX8_ok, nmX8, Or.inr (Or.inr ⟨rfl, Or.inl ⟨_, rfl⟩⟩)⟩
theorem flX8_39 : aFl RX8 39 9 5 2 := ⟨RX8, TX8, 8, tyX8, rfl, by decide, aT_mem 213 (by decide +kernel) rfl, inT_X8, tyX8_ok, nmX8, Or.inr (Or.inr ⟨rfl, Or.inl ⟨_, rfl⟩⟩)⟩
theorem flX8_43 : aFl RX8 43 9 6 2 := ⟨RX8, TX8, 8, tyX8, rfl, by decide, aT_mem 214 (by decide +kernel) rfl, inT_X8, tyX8_ok, nmX8, Or.inr (Or.inr ⟨rfl, Or.inl ⟨_, rfl⟩⟩)⟩
theorem flX8_46 : aFl RX8 46 9 7 2 := ⟨RX8, TX8, 8, tyX8, rfl, by decide, aT_mem 215 (by decide +kernel) rfl, inT_X8, tyX8_ok, nmX8, Or.inr (Or.inr ⟨rfl, Or.inl ⟨_, rfl⟩⟩)⟩
theorem flX8_56 : aFl RX8 56 9 1 0 := ⟨RX8, TX8, 8, tyX8, rfl, by decide, aT_mem 209 (by decide +kernel) rfl, inT_X8, tyX8_ok, nmX8, Or.inl ⟨rfl, rfl⟩⟩
theorem flX8_79 : aFl RX8 79 5 3 2 := ⟨RX4, TX4, 5, tyX4, rfl, by decide, aT_mem 333 (by decide +kernel) rfl, inT_X4, tyX4_ok, nmX4, Or.inr (Or.inr ⟨rfl, Or.inr ⟨_, rfl⟩⟩)⟩
theorem flX8_114 : aFl RX8 114 3 1 2 := ⟨RX2, TX2, 3, tyX2, rfl, by decide, aT_mem 196 (by decide +kernel) rfl, inT_X2, tyX2_ok, nmX2, Or.inr (Or.inr ⟨rfl, Or.inl ⟨_, rfl⟩⟩)⟩
theorem flX8_124 : aFl RX8 124 5 4 0 := ⟨RX4, TX4, 5, tyX4, rfl, by decide, aT_mem 338 (by decide +kernel) rfl, inT_X4, tyX4_ok, nmX4, Or.inl ⟨rfl, rfl⟩⟩
theorem flX8_134 : aFl RX8 134 3 0 1 := ⟨RX2, TX2, 3, tyX2, rfl, by decide, aT_mem 191 (by decide +kernel) rfl, inT_X2, tyX2_ok, nmX2, Or.inr (Or.inl ⟨rfl, rfl⟩)⟩
theorem flX0_10 : aFl RX0 10 2 0 2 := ⟨RX0, TX0, 4, tyX0, rfl, by decide, aT_mem 132 (by decide +kernel) rfl, inT_X0, tyX0_ok, nmX0, Or.inr (Or.inr ⟨rfl, Or.inl ⟨_, rfl⟩⟩)⟩
theorem flX0_16 : aFl RX0 16 2 1 2 := ⟨RX0, TX0, 4, tyX0, rfl, by decide, aT_mem 133 (by decide +kernel) rfl, inT_X0, tyX0_ok, nmX0, Or.inr (Or.inr ⟨rfl, Or.inl ⟨_, rfl⟩⟩)⟩
theorem flX0_19 : aFl RX0 19 2 2 2 := ⟨RX0, TX0, 4, tyX0, rfl, by decide, aT_mem 134 (by decide +kernel) rfl, inT_X0, tyX0_ok, nmX0, Or.inr (Or.inr ⟨rfl, Or.inl ⟨_, rfl⟩⟩)⟩
theorem flX0_22 : aFl RX0 22 2 3 2 := ⟨RX0, TX0, 4, tyX0, rfl, by decide, aT_mem 135 (by decide +kernel) rfl, inT_X0, tyX0_ok, nmX0, Or.inr (Or.inr ⟨rfl, Or.inl ⟨_, rfl⟩⟩)⟩
theorem flX0_29 : aFl RX0 29 3 2 2 := ⟨RX2, TX2, 3, tyX2, rfl, by decide, aT_mem 198 (by decide +kernel) rfl, inT_X2, tyX2_ok, nmX2, Or.inr (Or.inr ⟨rfl, Or.inl ⟨_, rfl⟩⟩)⟩
theorem flX0_38 : aFl RX0 38 3 0 1 := ⟨RX2, TX2, 3, tyX2, rfl, by decide, aT_mem 189 (by decide +kernel) rfl, inT_X2, tyX2_ok, nmX2, Or.inr (Or.inl ⟨rfl, rfl⟩)⟩
theorem flX0_57 : aFl RX0 57 3 1 2 := ⟨RX2, TX2, 3, tyX2, rfl, by decide, aT_mem 194 (by decide +kernel) rfl, inT_X2, tyX2_ok, nmX2, Or.inr (Or.inr ⟨rfl, Or.inl ⟨_, rfl⟩⟩)⟩
theorem flX1_9 : aFl RX1 9 5 0 0 := ⟨RX4, TX4, 5, tyX4, rfl, by decide, aT_mem 321 (by decide +kernel) rfl, inT_X4, tyX4_ok, nmX4, Or.inl ⟨rfl, rfl⟩⟩
theorem flX2_10 : aFl RX2 10 3 1 2 := ⟨RX2, TX2, 3, tyX2, rfl, by decide, aT_mem 192 (by decide +kernel) rfl, inT_X2, tyX2_ok, nmX2, Or.inr (Or.inr ⟨rfl, Or.inl ⟨_, rfl⟩⟩)⟩
theorem flX2_16 : aFl RX2 16 3 2 2 := ⟨RX2, TX2, 3, tyX2, rfl, by decide, aT_mem 197 (by decide +kernel) rfl, inT_X2, tyX2_ok, nmX2, Or.inr (Or.inr ⟨rfl, Or.inl ⟨_, rfl⟩⟩)⟩
theorem flX2_23 : aFl RX2 23 3 0 1 := ⟨RX2, TX2, 3, tyX2, rfl, by decide, aT_mem 188 (by decide +kernel) rfl, inT_X2, tyX2_ok, nmX2, Or.inr (Or.inl ⟨rfl, rfl⟩)⟩
theorem flX3_9 : aFl RX3 9 4 0 2 := ⟨RX3, TX3, 2, tyX3, rfl, by decide, aT_mem 112 (by decide +kernel) rfl, inT_X3, tyX3_ok, nmX3, Or.inr (Or.inr ⟨rfl, Or.inr ⟨_, rfl⟩⟩)⟩
theorem flX3_13 : aFl RX3 13 4 1 0 := ⟨RX3, TX3, 2, tyX3, rfl, by decide, aT_mem 113 (by decide +kernel) rfl, inT_X3, tyX3_ok, nmX3, Or.inl ⟨rfl, rfl⟩⟩
theorem flX4_9 : aFl RX4 9 5 0 0 := ⟨RX4, TX4, 5, tyX4, rfl, by decide, aT_mem 320 (by decide +kernel) rfl, inT_X4, tyX4_ok, nmX4, Or.inl ⟨rfl, rfl⟩⟩
theorem flX4_15 : aFl RX4 15 5 1 0 := ⟨RX4, TX4, 5, tyX4, rfl, by decide, aT_mem 325 (by decide +kernel) rfl, inT_X4, tyX4_ok, nmX4, Or.inl ⟨rfl, rfl⟩⟩
theorem flX4_18 : aFl RX4 18 5 2 0 := ⟨RX4, TX4, 5, tyX4, rfl, by decide, aT_mem 329 (by decide +kernel) rfl, inT_X4, tyX4_ok, nmX4, Or.inl ⟨rfl, rfl⟩⟩
theorem flX4_30 : aFl RX4 30 5 3 2 := ⟨RX4, TX4, 5, tyX4, rfl, by decide, aT_mem 332 (by decide +kernel) rfl, inT_X4, tyX4_ok, nmX4, Or.inr (Or.inr ⟨rfl, Or.inr ⟨_, rfl⟩⟩)⟩
theorem flX5_12 : aFl RX5 12 6 0 2 := ⟨RX5, TX5, 1, tyX5, rfl, by decide, aT_mem 120 (by decide +kernel) rfl, inT_X5, tyX5_ok, nmX5, Or.inr (Or.inr ⟨rfl, Or.inl ⟨_, rfl⟩⟩)⟩
theorem flX5_18 : aFl RX5 18 3 0 1 := ⟨RX2, TX2, 3, tyX2, rfl, by decide, aT_mem 187 (by decide +kernel) rfl, inT_X2, tyX2_ok, nmX2, Or.inr (Or.inl ⟨rfl, rfl⟩)⟩
theorem flX5_24 : aFl RX5 24 3 1 2 := ⟨RX2, TX2, 3, tyX2, rfl, by decide, aT_mem 193 (by decide +kernel) rfl, inT_X2, tyX2_ok, nmX2, Or.inr (Or.inr ⟨rfl, Or.inl ⟨_, rfl⟩⟩)⟩
theorem flX5_31 : aFl RX5 31 3 2 2 := ⟨RX2, TX2, 3, tyX2, rfl, by decide, aT_mem 199 (by decide +kernel) rfl, inT_X2, tyX2_ok, nmX2, Or.inr (Or.inr ⟨rfl, Or.inl ⟨_, rfl⟩⟩)⟩
theorem flX5_44 : aFl RX5 44 5 2 0 := ⟨RX4, TX4, 5, tyX4, rfl, by decide, aT_mem 331 (by decide +kernel) rfl, inT_X4, tyX4_ok, nmX4, Or.inl ⟨rfl, rfl⟩⟩
theorem flX5_56 : aFl RX5 56 5 0 0 := ⟨RX4, TX4, 5, tyX4, rfl, by decide, aT_mem 323 (by decide +kernel) rfl, inT_X4, tyX4_ok, nmX4, Or.inl ⟨rfl, rfl⟩⟩
theorem flX5_65 : aFl RX5 65 5 1 0 := ⟨RX4, TX4, 5, tyX4, rfl, by decide, aT_mem 327 (by decide +kernel) rfl, inT_X4, tyX4_ok, nmX4, Or.inl ⟨rfl, rfl⟩⟩
theorem flX5_118 : aFl RX5 118 5 3 2 := ⟨RX4, TX4, 5, tyX4, rfl, by decide, aT_mem 335 (by decide +kernel) rfl, inT_X4, tyX4_ok, nmX4, Or.inr (Or.inr ⟨rfl, Or.inr ⟨_, rfl⟩⟩)⟩
theorem flX6_12 : aFl RX6 12 7 0 2 := ⟨RX6, TX6, 6, tyX6, rfl, by decide, aT_mem 160 (by decide +kernel) rfl, inT_X6, tyX6_ok, nmX6, Or.inr (Or.inr ⟨rfl, Or.inl ⟨_, rfl⟩⟩)⟩
theorem flX6_21 : aFl RX6 21 7 1 2 := ⟨RX6, TX6, 6, tyX6, rfl, by decide, aT_mem 161 (by decide +kernel) rfl, inT_X6, tyX6_ok, nmX6, Or.inr (Or.inr ⟨rfl, Or.inl ⟨_, rfl⟩⟩)⟩
theorem flX6_25 : aFl RX6 25 7 2 2 := ⟨RX6, TX6, 6, tyX6, rfl, by decide, aT_mem 162 (by decide +kernel) rfl, inT_X6, tyX6_ok, nmX6, Or.inr (Or.inr ⟨rfl, Or.inl ⟨_, rfl⟩⟩)⟩
theorem flX6_28 : aFl RX6 28 7 3 2 := ⟨RX6, TX6, 6, tyX6, rfl, by decide, aT_mem 163 (by decide +kernel) rfl, inT_X6, tyX6_ok, nmX6, Or.inr (Or.inr ⟨rfl, Or.inl ⟨_, rfl⟩⟩)⟩
theorem flX6_31 : aFl RX6 31 7 4 2 := ⟨RX6, TX6, 6, tyX6, rfl, by decide, aT_mem 164 (by decide +kernel) rfl, inT_X6, tyX6_ok, nmX6, Or.inr (Or.inr ⟨rfl, Or.inl ⟨_, rfl⟩⟩)⟩
theorem flX6_44 : aFl RX6 44 5 2 0 := ⟨RX4, TX4, 5, tyX4, rfl, by decide, aT_mem 330 (by decide +kernel) rfl, inT_X4, tyX4_ok, nmX4, Or.inl ⟨rfl, rfl⟩⟩
theorem flX6_55 : aFl RX6 55 5 4 0 := ⟨RX4, TX4, 5, tyX4, rfl, by decide, aT_mem 337 (by decide +kernel) rfl, inT_X4, tyX4_ok, nmX4, Or.inl ⟨rfl, rfl⟩⟩
theorem flX6_66 : aFl RX6 66 3 0 1 := ⟨RX2, TX2, 3, tyX2, rfl, by decide, aT_mem 190 (by decide +kernel) rfl, inT_X2, tyX2_ok, nmX2, Or.inr (Or.inl ⟨rfl, rfl⟩)⟩
theorem flX6_86 : aFl RX6 86 5 0 0 := ⟨RX4, TX4, 5, tyX4, rfl, by decide, aT_mem 324 (by decide +kernel) rfl, inT_X4, tyX4_ok, nmX4, Or.inl ⟨rfl, rfl⟩⟩
theorem flX6_89 : aFl RX6 89 5 1 0 := ⟨RX4, TX4, 5, tyX4, rfl, by decide, aT_mem 328 (by decide +kernel) rfl, inT_X4, tyX4_ok, nmX4, Or.inl ⟨rfl, rfl⟩⟩
theorem flX6_102 : aFl RX6 102 7 5 1 := ⟨RX6, TX6, 6, tyX6, rfl, by decide, aT_mem 165 (by decide +kernel) rfl, inT_X6, tyX6_ok, nmX6, Or.inr (Or.inl ⟨rfl, rfl⟩)⟩
theorem flX6_109 : aFl RX6 109 3 1 2 := ⟨RX2, TX2, 3, tyX2, rfl, by decide, aT_mem 195 (by decide +kernel) rfl, inT_X2, tyX2_ok, nmX2, Or.inr (Or.inr ⟨rfl, Or.inl ⟨_, rfl⟩⟩)⟩
theorem flX6_119 : aFl RX6 119 3 2 2 := ⟨RX2, TX2, 3, tyX2, rfl, by decide, aT_mem 200 (by decide +kernel) rfl, inT_X2, tyX2_ok, nmX2, Or.inr (Or.inr ⟨rfl, Or.inl ⟨_, rfl⟩⟩)⟩
theorem flX6_138 : aFl RX6 138 5 3 2 := ⟨RX4, TX4, 5, tyX4, rfl, by decide, aT_mem 336 (by decide +kernel) rfl, inT_X4, tyX4_ok, nmX4, Or.inr (Or.inr ⟨rfl, Or.inr ⟨_, rfl⟩⟩)⟩
theorem flX7_9 : aFl RX7 9 5 0 0 := ⟨RX4, TX4, 5, tyX4, rfl, by decide, aT_mem 322 (by decide +kernel) rfl, inT_X4, tyX4_ok, nmX4, Or.inl ⟨rfl, rfl⟩⟩
theorem flX7_37 : aFl RX7 37 5 1 0 := ⟨RX4, TX4, 5, tyX4, rfl, by decide, aT_mem 326 (by decide +kernel) rfl, inT_X4, tyX4_ok, nmX4, Or.inl ⟨rfl, rfl⟩⟩
theorem flX7_66 : aFl RX7 66 5 3 2 := ⟨RX4, TX4, 5, tyX4, rfl, by decide, aT_mem 334 (by decide +kernel) rfl, inT_X4, tyX4_ok, nmX4, Or.inr (Or.inr ⟨rfl, Or.inr ⟨_, rfl⟩⟩)⟩
theorem flX9_7 : aFl RX9 7 10 1 2 := ⟨RX9, TX9, 14, tyX9, rfl, by decide, aT_mem 842 (by decide +kernel) rfl, inT_X9, tyX9_ok, nmX9, Or.inr (Or.inr ⟨rfl, Or.inr ⟨_, rfl⟩⟩)⟩
theorem flX9_13 : aFl RX9 13 10 2 2 := ⟨RX9, TX9, 14, tyX9, rfl, by decide, aT_mem 843 (by decide +kernel) rfl, inT_X9, tyX9_ok, nmX9, Or.inr (Or.inr ⟨rfl, Or.inr ⟨_, rfl⟩⟩)⟩
theorem flX9_17 : aFl RX9 17 10 3 2 := ⟨RX9, TX9, 14, tyX9, rfl, by decide, aT_mem 844 (by decide +kernel) rfl, inT_X9, tyX9_ok, nmX9, Or.inr (Or.inr ⟨rfl, Or.inr ⟨_, rfl⟩⟩)⟩
theorem flX9_20 : aFl RX9 20 10 4 2 := ⟨RX9, TX9, 14, tyX9, rfl, by decide, aT_mem 845 (by decide +kernel) rfl, inT_X9, tyX9_ok, nmX9, Or.inr (Or.inr ⟨rfl, Or.inr ⟨_, rfl⟩⟩)⟩
theorem flX9_23 : aFl RX9 23 10 5 2 := ⟨RX9, TX9, 14, tyX9, rfl, by decide, aT_mem 846 (by decide +kernel) rfl, inT_X9, tyX9_ok, nmX9, Or.inr (Or.inr ⟨rfl, Or.inr ⟨_, rfl⟩⟩)⟩
theorem flX9_26 : aFl RX9 26 10 6 2 := ⟨RX9, TX9, 14, tyX9, rfl, by decide, aT_mem 847 (by decide +kernel) rfl, inT_X9, tyX9_ok, nmX9, Or.inr (Or.inr ⟨rfl, Or.inr ⟨_, rfl⟩⟩)⟩
theorem flX9_29 : aFl RX9 29 10 8 2 := ⟨RX9, TX9, 14, tyX9, rfl, by decide, aT_mem 849 (by decide +kernel) rfl, inT_X9, tyX9_ok, nmX9, Or.inr (Or.inr ⟨rfl, Or.inr ⟨_, rfl⟩⟩)⟩
theorem flX9_32 : aFl RX9 32 10 0 0 := ⟨RX9, TX9, 14, tyX9, rfl, by decide, aT_mem 841 (by decide +kernel) rfl, inT_X9, tyX9_ok, nmX9, Or.inl ⟨rfl, rfl⟩⟩
theorem flX9_64 : aFl RX9 64 10 7 0 := ⟨RX9, TX9, 14, tyX9, rfl, by decide, aT_mem 848 (by decide +kernel) rfl, inT_X9, tyX9_ok, nmX9, Or.inl ⟨rfl, rfl⟩⟩
theorem flX9_88 : aFl RX9 88 10 9 0 := ⟨RX9, TX9, 14, tyX9, rfl, by decide, aT_mem 850 (by decide +kernel) rfl, inT_X9, tyX9_ok, nmX9, Or.inl ⟨rfl, rfl⟩⟩
theorem flX9_127 : aFl RX9 127 10 11 0 := ⟨RX9, TX9, 14, tyX9, rfl, by decide, aT_mem 852 (by decide +kernel) rfl, inT_X9, tyX9_ok, nmX9, Or.inl ⟨rfl, rfl⟩⟩
theorem flX9_156 : aFl RX9 156 10 13 1 := ⟨RX9, TX9, 14, tyX9, rfl, by decide, aT_mem 854 (by decide +kernel) rfl, inT_X9, tyX9_ok, nmX9, Or.inr (Or.inl ⟨rfl, rfl⟩)⟩
theorem flX9_160 : aFl RX9 160 10 12 0 := ⟨RX9, TX9, 14, tyX9, rfl, by decide, aT_mem 853 (by decide +kernel) rfl, inT_X9, tyX9_ok, nmX9, Or.inl ⟨rfl, rfl⟩⟩
theorem flX9_163 : aFl RX9 163 10 10 0 := ⟨RX9, TX9, 14, tyX9, rfl, by decide, aT_mem 851 (by decide +kernel) rfl, inT_X9, tyX9_ok, nmX9, Or.inl ⟨rfl, rfl⟩⟩
def lkX8 : List aIn := [(.getfield 56, 9, 1, 0, []), (.getfield 11, 9, 0, 2, []), (.new 9, 5, 5, 0, [0, 0, 0, 2, 0]), (.putfield 56, 9, 1, 0, []), (.getfield 79, 5, 3, 2, []), (.getfield 18, 9, 2, 2, []), (.getfield 39, 9, 5, 2, []), (.getfield 43, 9, 6, 2, []), (.getfield 25, 9, 3, 2, []), (.getfield 32, 9, 4, 2, []), (.getfield 46, 9, 7, 2, []), (.getfield 114, 3, 1, 2, []), (.getfield 124, 5, 4, 0, []), (.putfield 124, 5, 4, 0, []), (.getfield 134, 3, 0, 1, [])]
theorem lkX8_ok {nL : Nat} : ∀ q ∈ lkX8, ∀ pc, aEx RX8 nL false pc q.1 q.2.1 q.2.2.1 q.2.2.2.1 q.2.2.2.2 := List.forall_mem_cons.mpr ⟨fun _ => flX8_56, List.forall_mem_cons.mpr ⟨fun _ => flX8_11, List.forall_mem_cons.mpr ⟨fun _ _ => ⟨RX4, TX4, tyX4, rfl, aT_mem 98 (by decide +kernel) rfl, aT_mem 309 (by decide +kernel) rfl, aT_mem 84 (by decide +kernel) rfl, inT_X4, tyX4_ok, by decide +kernel⟩, List.forall_mem_cons.mpr ⟨fun _ => ⟨flX8_56, RX8, TX8, 8, rfl, Or.inl rfl⟩, List.forall_mem_cons.mpr ⟨fun _ => flX8_79, List.forall_mem_cons.mpr ⟨fun _ => flX8_18, List.forall_mem_cons.mpr ⟨fun _ => flX8_39, List.forall_mem_cons.mpr ⟨fun _ => flX8_43, List.forall_mem_cons.mpr ⟨fun _ => flX8_25, List.forall_mem_cons.mpr ⟨fun _ => flX8_32, List.forall_mem_cons.mpr ⟨fun _ => flX8_46, List.forall_mem_cons.mpr ⟨fun _ => flX8_114, List.forall_mem_cons.mpr ⟨fun _ => flX8_124, List.forall_mem_cons.mpr ⟨fun _ => ⟨flX8_124, RX4, TX4, 5, rfl, Or.inl rfl⟩, List.forall_mem_cons.mpr ⟨fun _ => flX8_134, fun _ h => absurd h List.not_mem_nil⟩⟩⟩⟩⟩⟩⟩⟩⟩⟩⟩⟩⟩⟩⟩
def lkX8i : List aIn := [(.anewarray 9, 0, 0, 0, []), (.putfield 11, 9, 0, 2, []), (.new 15, 6, 1, 0, [2]), (.putfield 18, 9, 2, 2, []), (.new 22, 2, 4, 0, [2, 2, 2, 2]), (.putfield 25, 9, 3, 2, []), (.new 29, 7, 6, 0, [2, 2, 2, 2, 2, 1]), (.putfield 32, 9, 4, 2, []), (.new 36, 3, 3, 0, [1, 2, 2]), (.putfield 39, 9, 5, 2, []), (.putfield 43, 9, 6, 2, []), (.putfield 46, 9, 7, 2, [])]
theorem lkX8i_ok {nL : Nat} : ∀ q ∈ lkX8i, ∀ pc, aEx RX8 nL true pc q.1 q.2.1 q.2.2.1 q.2.2.2.1 q.2.2.2.2 := List.forall_mem_cons.mpr ⟨fun _ => aT_mem 98 (by decide +kernel) rfl, List.forall_mem_cons.mpr ⟨fun _ => ⟨flX8_11, RX8, TX8, 8, rfl, Or.inr ⟨rfl, rfl⟩⟩, List.forall_mem_cons.mpr ⟨fun _ _ => ⟨RX5, TX5, tyX5, rfl, aT_mem 100 (by decide +kernel) rfl, aT_mem 101 (by decide +kernel) rfl, aT_mem 73 (by decide +kernel) rfl, inT_X5, tyX5_ok, by decide +kernel⟩, List.forall_mem_cons.mpr ⟨fun _ => ⟨flX8_18, RX8, TX8, 8, rfl, Or.inr ⟨rfl, rfl⟩⟩, List.forall_mem_cons.mpr ⟨fun _ _ => ⟨RX0, TX0, tyX0, rfl, aT_mem 124 (by decide +kernel) rfl, aT_mem 125 (by decide +kernel) rfl, aT_mem 75 (by decide +kernel) rfl, inT_X0, tyX0_ok, by decide +kernel⟩, List.forall_mem_cons.mpr ⟨fun _ => ⟨flX8_25, RX8, TX8, 8, rfl, Or.inr ⟨rfl, rfl⟩⟩, List.forall_mem_cons.mpr ⟨fun _ _ => ⟨RX6, TX6, tyX6, rfl, aT_mem 145 (by decide +kernel) rfl, aT_mem 146 (by decide +kernel) rfl, aT_mem 76 (by decide +kernel) rfl, inT_X6, tyX6_ok, by decide +kernel⟩, List.forall_mem_cons.mpr ⟨fun _ => ⟨flX8_32, RX8, TX8, 8, rfl, Or.inr ⟨rfl, rfl⟩⟩, List.forall_mem_cons.mpr ⟨fun _ _ => ⟨RX2, TX2, tyX2, rfl, aT_mem 179 (by decide +kernel) rfl, aT_mem 180 (by decide +kernel) rfl, aT_mem 78 (by decide +kernel) rfl, inT_X2, tyX2_ok, by decide +kernel⟩, List.forall_mem_cons.mpr ⟨fun _ => ⟨flX8_39, RX8, TX8, 8, rfl, Or.inr ⟨rfl, rfl⟩⟩, List.forall_mem_cons.mpr ⟨fun _ => ⟨flX8_43, RX8, TX8, 8, rfl, Or.inr ⟨rfl, rfl⟩⟩, List.forall_mem_cons.mpr ⟨fun _ => ⟨flX8_46, RX8, TX8, 8, rfl, Or.inr ⟨rfl, rfl⟩⟩, fun _ h => absurd h List.not_mem_nil⟩⟩⟩⟩⟩⟩⟩⟩⟩⟩⟩⟩
def lkX0 : List aIn := [(.getfield 29, 3, 2, 2, []), (.getfield 38, 3, 0, 1, []), (.getfield 10, 2, 0, 2, []), (.getfield 16, 2, 1, 2, []), (.getfield 57, 3, 1, 2, []), (.getfield 19, 2, 2, 2, []), (.getfield 22, 2, 3, 2, [])]
theorem lkX0_ok {nL : Nat} : ∀ q ∈ lkX0, ∀ pc, aEx RX0 nL false pc q.1 q.2.1 q.2.2.1 q.2.2.2.1 q.2.2.2.2 := List.forall_mem_cons.mpr ⟨fun _ => flX0_29, List.forall_mem_cons.mpr ⟨fun _ => flX0_38, List.forall_mem_cons.mpr ⟨fun _ => flX0_10, List.forall_mem_cons.mpr ⟨fun _ => flX0_16, List.forall_mem_cons.mpr ⟨fun _ => flX0_57, List.forall_mem_cons.mpr ⟨fun _ => flX0_19, List.forall_mem_cons.mpr ⟨fun _ => flX0_22, fun _ h => absurd h List.not_mem_nil⟩⟩⟩⟩⟩⟩⟩
def lkX0i : List aIn := [(.new 7, 4, 2, 0, [2, 0]), (.putfield 10, 2, 0, 2, []), (.putfield 16, 2, 1, 2, []), (.putfield 19, 2, 2, 2, []), (.putfield 22, 2, 3, 2, [])]
theorem lkX0i_ok {nL : Nat} : ∀ q ∈ lkX0i, ∀ pc, aEx RX0 nL true pc q.1 q.2.1 q.2.2.1 q.2.2.2.1 q.2.2.2.2 := List.forall_mem_cons.mpr ⟨fun _ _ => ⟨RX3, TX3, tyX3, rfl, aT_mem 130 (by decide +kernel) rfl, aT_mem 107 (by decide +kernel) rfl, aT_mem 74 (by decide +kernel) rfl, inT_X3, tyX3_ok, by decide +kernel⟩, List.forall_mem_cons.mpr ⟨fun _ => ⟨flX0_10, RX0, TX0, 4, rfl, Or.inr ⟨rfl, rfl⟩⟩, List.forall_mem_cons.mpr ⟨fun _ => ⟨flX0_16, RX0, TX0, 4, rfl, Or.inr ⟨rfl, rfl⟩⟩, List.forall_mem_cons.mpr ⟨fun _ => ⟨flX0_19, RX0, TX0, 4, rfl, Or.inr ⟨rfl, rfl⟩⟩, List.forall_mem_cons.mpr ⟨fun _ => ⟨flX0_22, RX0, TX0, 4, rfl, Or.inr ⟨rfl, rfl⟩⟩, fun _ h => absurd h List.not_mem_nil⟩⟩⟩⟩⟩
def lkX1 : List aIn := [(.getfield 9, 5, 0, 0, []), (.ldc2_w 17, 201445044, 0, 0, []), (.ldc2_w 19, 4143375250170144896, 0, 0, []), (.ldc2_w 21, 1929146237, 0, 0, []), (.ldc2_w 23, 5070927765361438757, 0, 0, [])]
theorem lkX1_ok {nL : Nat} : ∀ q ∈ lkX1, ∀ pc, aEx RX1 nL false pc q.1 q.2.1 q.2.2.1 q.2.2.2.1 q.2.2.2.2 := List.forall_mem_cons.mpr ⟨fun _ => flX1_9, List.forall_mem_cons.mpr ⟨fun _ => aT_mem 499 (by decide +kernel) rfl, List.forall_mem_cons.mpr ⟨fun _ => aT_mem 500 (by decide +kernel) rfl, List.forall_mem_cons.mpr ⟨fun _ => aT_mem 504 (by decide +kernel) rfl, List.forall_mem_cons.mpr ⟨fun _ => aT_mem 505 (by decide +kernel) rfl, fun _ h => absurd h List.not_mem_nil⟩⟩⟩⟩⟩
def lkX2 : List aIn := [(.getfield 10, 3, 1, 2, []), (.putfield 23, 3, 0, 1, []), (.getfield 16, 3, 2, 2, [])]
theorem lkX2_ok {nL : Nat} : ∀ q ∈ lkX2, ∀ pc, aEx RX2 nL false pc q.1 q.2.1 q.2.2.1 q.2.2.2.1 q.2.2.2.2 := List.forall_mem_cons.mpr ⟨fun _ => flX2_10, List.forall_mem_cons.mpr ⟨fun _ => ⟨flX2_23, RX2, TX2, 3, rfl, Or.inl rfl⟩, List.forall_mem_cons.mpr ⟨fun _ => flX2_16, fun _ h => absurd h List.not_mem_nil⟩⟩⟩
def lkX2i : List aIn := [(.new 7, 4, 2, 0, [2, 0]), (.putfield 10, 3, 1, 2, []), (.putfield 16, 3, 2, 2, [])]
theorem lkX2i_ok {nL : Nat} : ∀ q ∈ lkX2i, ∀ pc, aEx RX2 nL true pc q.1 q.2.1 q.2.2.1 q.2.2.2.1 q.2.2.2.2 := List.forall_mem_cons.mpr ⟨fun _ _ => ⟨RX3, TX3, tyX3, rfl, aT_mem 185 (by decide +kernel) rfl, aT_mem 107 (by decide +kernel) rfl, aT_mem 74 (by decide +kernel) rfl, inT_X3, tyX3_ok, by decide +kernel⟩, List.forall_mem_cons.mpr ⟨fun _ => ⟨flX2_10, RX2, TX2, 3, rfl, Or.inr ⟨rfl, rfl⟩⟩, List.forall_mem_cons.mpr ⟨fun _ => ⟨flX2_16, RX2, TX2, 3, rfl, Or.inr ⟨rfl, rfl⟩⟩, fun _ h => absurd h List.not_mem_nil⟩⟩⟩
def lkX3 : List aIn := [(.getfield 13, 4, 1, 0, []), (.getfield 9, 4, 0, 2, []), (.putfield 13, 4, 1, 0, []), (.ldc 20, 2147483647, 0, 0, []), (.getstatic 29, 0, 0, 0, []), (.ldc2_w 45, 10, 0, 0, []), (.ldc2_w 68, 2147483647, 0, 0, [])]
theorem lkX3_ok {nL : Nat} : ∀ q ∈ lkX3, ∀ pc, aEx RX3 nL false pc q.1 q.2.1 q.2.2.1 q.2.2.2.1 q.2.2.2.2 := List.forall_mem_cons.mpr ⟨fun _ => flX3_13, List.forall_mem_cons.mpr ⟨fun _ => flX3_9, List.forall_mem_cons.mpr ⟨fun _ => ⟨flX3_13, RX3, TX3, 2, rfl, Or.inl rfl⟩, List.forall_mem_cons.mpr ⟨fun _ => aT_mem 430 (by decide +kernel) rfl, List.forall_mem_cons.mpr ⟨fun _ => aT_mem 482 (by decide +kernel) rfl, List.forall_mem_cons.mpr ⟨fun _ => aT_mem 751 (by decide +kernel) rfl, List.forall_mem_cons.mpr ⟨fun _ => aT_mem 579 (by decide +kernel) rfl, fun _ h => absurd h List.not_mem_nil⟩⟩⟩⟩⟩⟩⟩
def lkX3i : List aIn := [(.newarray .int, 0, 0, 0, []), (.putfield 9, 4, 0, 2, [])]
theorem lkX3i_ok {nL : Nat} : ∀ q ∈ lkX3i, ∀ pc, aEx RX3 nL true pc q.1 q.2.1 q.2.2.1 q.2.2.2.1 q.2.2.2.2 := List.forall_mem_cons.mpr ⟨fun _ => ⟨by decide, rfl, aT_mem 119 (by decide +kernel) rfl⟩, List.forall_mem_cons.mpr ⟨fun _ => ⟨flX3_9, RX3, TX3, 2, rfl, Or.inr ⟨rfl, rfl⟩⟩, fun _ h => absurd h List.not_mem_nil⟩⟩
def lkX4 : List aIn := [(.getfield 9, 5, 0, 0, []), (.getfield 15, 5, 1, 0, []), (.getfield 30, 5, 3, 2, [])]
theorem lkX4_ok {nL : Nat} : ∀ q ∈ lkX4, ∀ pc, aEx RX4 nL false pc q.1 q.2.1 q.2.2.1 q.2.2.2.1 q.2.2.2.2 := List.forall_mem_cons.mpr ⟨fun _ => flX4_9, List.forall_mem_cons.mpr ⟨fun _ => flX4_15, List.forall_mem_cons.mpr ⟨fun _ => flX4_30, fun _ h => absurd h List.not_mem_nil⟩⟩⟩
def lkX4i : List aIn := [(.putfield 9, 5, 0, 0, []), (.putfield 15, 5, 1, 0, []), (.putfield 18, 5, 2, 0, []), (.newarray .byte, 1, 0, 0, []), (.putfield 30, 5, 3, 2, [])]
theorem lkX4i_ok {nL : Nat} : ∀ q ∈ lkX4i, ∀ pc, aEx RX4 nL true pc q.1 q.2.1 q.2.2.1 q.2.2.2.1 q.2.2.2.2 := List.forall_mem_cons.mpr ⟨fun _ => ⟨flX4_9, RX4, TX4, 5, rfl, Or.inr ⟨rfl, rfl⟩⟩, List.forall_mem_cons.mpr ⟨fun _ => ⟨flX4_15, RX4, TX4, 5, rfl, Or.inr ⟨rfl, rfl⟩⟩, List.forall_mem_cons.mpr ⟨fun _ => ⟨flX4_18, RX4, TX4, 5, rfl, Or.inr ⟨rfl, rfl⟩⟩, List.forall_mem_cons.mpr ⟨fun _ => ⟨by decide, rfl, aT_mem 308 (by decide +kernel) rfl⟩, List.forall_mem_cons.mpr ⟨fun _ => ⟨flX4_30, RX4, TX4, 5, rfl, Or.inr ⟨rfl, rfl⟩⟩, fun _ h => absurd h List.not_mem_nil⟩⟩⟩⟩⟩
def lkX5 : List aIn := [(.putfield 18, 3, 0, 1, []), (.getfield 24, 3, 1, 2, []), (.getfield 31, 3, 2, 2, []), (.getfield 44, 5, 2, 0, []), (.getfield 18, 3, 0, 1, []), (.getfield 56, 5, 0, 0, []), (.getfield 65, 5, 1, 0, []), (.getfield 118, 5, 3, 2, []), (.getfield 12, 6, 0, 2, [])]
theorem lkX5_ok {nL : Nat} : ∀ q ∈ lkX5, ∀ pc, aEx RX5 nL false pc q.1 q.2.1 q.2.2.1 q.2.2.2.1 q.2.2.2.2 := List.forall_mem_cons.mpr ⟨fun _ => ⟨flX5_18, RX2, TX2, 3, rfl, Or.inl rfl⟩, List.forall_mem_cons.mpr ⟨fun _ => flX5_24, List.forall_mem_cons.mpr ⟨fun _ => flX5_31, List.forall_mem_cons.mpr ⟨fun _ => flX5_44, List.forall_mem_cons.mpr ⟨fun _ => flX5_18, List.forall_mem_cons.mpr ⟨fun _ => flX5_56, List.forall_mem_cons.mpr ⟨fun _ => flX5_65, List.forall_mem_cons.mpr ⟨fun _ => flX5_118, List.forall_mem_cons.mpr ⟨fun _ => flX5_12, fun _ h => absurd h List.not_mem_nil⟩⟩⟩⟩⟩⟩⟩⟩⟩
def lkX5i : List aIn := [(.new 9, 4, 2, 0, [2, 0]), (.putfield 12, 6, 0, 2, [])]
theorem lkX5i_ok {nL : Nat} : ∀ q ∈ lkX5i, ∀ pc, aEx RX5 nL true pc q.1 q.2.1 q.2.2.1 q.2.2.2.1 q.2.2.2.2 := List.forall_mem_cons.mpr ⟨fun _ _ => ⟨RX3, TX3, tyX3, rfl, aT_mem 106 (by decide +kernel) rfl, aT_mem 107 (by decide +kernel) rfl, aT_mem 74 (by decide +kernel) rfl, inT_X3, tyX3_ok, by decide +kernel⟩, List.forall_mem_cons.mpr ⟨fun _ => ⟨flX5_12, RX5, TX5, 1, rfl, Or.inr ⟨rfl, rfl⟩⟩, fun _ h => absurd h List.not_mem_nil⟩⟩
def lkX6 : List aIn := [(.getfield 44, 5, 2, 0, []), (.getfield 25, 7, 2, 2, []), (.getfield 55, 5, 4, 0, []), (.getfield 21, 7, 1, 2, []), (.getfield 66, 3, 0, 1, []), (.getfield 12, 7, 0, 2, []), (.getfield 86, 5, 0, 0, []), (.getfield 89, 5, 1, 0, []), (.ldc2_w 100, 1, 1, 0, []), (.getfield 102, 7, 5, 1, []), (.getfield 109, 3, 1, 2, []), (.getfield 28, 7, 3, 2, []), (.getfield 119, 3, 2, 2, []), (.getfield 31, 7, 4, 2, []), (.getfield 138, 5, 3, 2, []), (.putfield 102, 7, 5, 1, [])]
theorem lkX6_ok {nL : Nat} : ∀ q ∈ lkX6, ∀ pc, aEx RX6 nL false pc q.1 q.2.1 q.2.2.1 q.2.2.2.1 q.2.2.2.2 := List.forall_mem_cons.mpr ⟨fun _ => flX6_44, List.forall_mem_cons.mpr ⟨fun _ => flX6_25, List.forall_mem_cons.mpr ⟨fun _ => flX6_55, List.forall_mem_cons.mpr ⟨fun _ => flX6_21, List.forall_mem_cons.mpr ⟨fun _ => flX6_66, List.forall_mem_cons.mpr ⟨fun _ => flX6_12, List.forall_mem_cons.mpr ⟨fun _ => flX6_86, List.forall_mem_cons.mpr ⟨fun _ => flX6_89, List.forall_mem_cons.mpr ⟨fun _ => aT_mem 703 (by decide +kernel) rfl, List.forall_mem_cons.mpr ⟨fun _ => flX6_102, List.forall_mem_cons.mpr ⟨fun _ => flX6_109, List.forall_mem_cons.mpr ⟨fun _ => flX6_28, List.forall_mem_cons.mpr ⟨fun _ => flX6_119, List.forall_mem_cons.mpr ⟨fun _ => flX6_31, List.forall_mem_cons.mpr ⟨fun _ => flX6_138, List.forall_mem_cons.mpr ⟨fun _ => ⟨flX6_102, RX6, TX6, 6, rfl, Or.inl rfl⟩, fun _ h => absurd h List.not_mem_nil⟩⟩⟩⟩⟩⟩⟩⟩⟩⟩⟩⟩⟩⟩⟩⟩
def lkX6i : List aIn := [(.new 9, 8, 0, 0, []), (.putfield 12, 7, 0, 2, []), (.new 18, 4, 2, 0, [2, 0]), (.putfield 21, 7, 1, 2, []), (.putfield 25, 7, 2, 2, []), (.putfield 28, 7, 3, 2, []), (.putfield 31, 7, 4, 2, [])]
theorem lkX6i_ok {nL : Nat} : ∀ q ∈ lkX6i, ∀ pc, aEx RX6 nL true pc q.1 q.2.1 q.2.2.1 q.2.2.2.1 q.2.2.2.2 := List.forall_mem_cons.mpr ⟨fun _ _ => ⟨RX7, TX7, tyX7, rfl, aT_mem 151 (by decide +kernel) rfl, aT_mem 152 (by decide +kernel) rfl, aT_mem 77 (by decide +kernel) rfl, inT_X7, tyX7_ok, by decide +kernel⟩, List.forall_mem_cons.mpr ⟨fun _ => ⟨flX6_12, RX6, TX6, 6, rfl, Or.inr ⟨rfl, rfl⟩⟩, List.forall_mem_cons.mpr ⟨fun _ _ => ⟨RX3, TX3, tyX3, rfl, aT_mem 158 (by decide +kernel) rfl, aT_mem 107 (by decide +kernel) rfl, aT_mem 74 (by decide +kernel) rfl, inT_X3, tyX3_ok, by decide +kernel⟩, List.forall_mem_cons.mpr ⟨fun _ => ⟨flX6_21, RX6, TX6, 6, rfl, Or.inr ⟨rfl, rfl⟩⟩, List.forall_mem_cons.mpr ⟨fun _ => ⟨flX6_25, RX6, TX6, 6, rfl, Or.inr ⟨rfl, rfl⟩⟩, List.forall_mem_cons.mpr ⟨fun _ => ⟨flX6_28, RX6, TX6, 6, rfl, Or.inr ⟨rfl, rfl⟩⟩, List.forall_mem_cons.mpr ⟨fun _ => ⟨flX6_31, RX6, TX6, 6, rfl, Or.inr ⟨rfl, rfl⟩⟩, fun _ h => absurd h List.not_mem_nil⟩⟩⟩⟩⟩⟩⟩
def lkX7 : List aIn := [(.getfield 9, 5, 0, 0, []), (.getfield 37, 5, 1, 0, []), (.getfield 66, 5, 3, 2, []), (.ldc2_w 73, 255, 0, 0, [])]
theorem lkX7_ok {nL : Nat} : ∀ q ∈ lkX7, ∀ pc, aEx RX7 nL false pc q.1 q.2.1 q.2.2.1 q.2.2.2.1 q.2.2.2.2 := List.forall_mem_cons.mpr ⟨fun _ => flX7_9, List.forall_mem_cons.mpr ⟨fun _ => flX7_37, List.forall_mem_cons.mpr ⟨fun _ => flX7_66, List.forall_mem_cons.mpr ⟨fun _ => aT_mem 709 (by decide +kernel) rfl, fun _ h => absurd h List.not_mem_nil⟩⟩⟩⟩
def lkL : List aIn := [(.new 8, 9, 8, 0, [2, 0, 2, 2, 2, 2, 2, 2]), (.new 57, 10, 14, 0, [0, 2, 2, 2, 2, 2, 2, 0, 2, 0, 0, 0, 0, 1]), (.newarray .long, 2, 0, 0, [])]
theorem lkL_ok {nL : Nat} : ∀ q ∈ lkL, ∀ pc, aEx RL nL false pc q.1 q.2.1 q.2.2.1 q.2.2.2.1 q.2.2.2.2 := List.forall_mem_cons.mpr ⟨fun _ _ => ⟨RX8, TX8, tyX8, rfl, aT_mem 90 (by decide +kernel) rfl, aT_mem 91 (by decide +kernel) rfl, aT_mem 72 (by decide +kernel) rfl, inT_X8, tyX8_ok, by decide +kernel⟩, List.forall_mem_cons.mpr ⟨fun _ _ => ⟨RX9, TX9, tyX9, rfl, aT_mem 835 (by decide +kernel) rfl, aT_mem 836 (by decide +kernel) rfl, aT_mem 79 (by decide +kernel) rfl, inT_X9, tyX9_ok, by decide +kernel⟩, List.forall_mem_cons.mpr ⟨fun _ => ⟨by decide, rfl, aT_mem 1105 (by decide +kernel) rfl⟩, fun _ h => absurd h List.not_mem_nil⟩⟩⟩
def lkX9 : List aIn := [(.getfield 32, 10, 0, 0, []), (.putfield 32, 10, 0, 0, []), (.getfield 29, 10, 8, 2, []), (.ldc 40, 65535, 0, 0, []), (.ldc2_w 41, 65535, 0, 0, []), (.getfield 64, 10, 7, 0, []), (.getfield 13, 10, 2, 2, []), (.getfield 17, 10, 3, 2, []), (.getfield 20, 10, 4, 2, []), (.getfield 23, 10, 5, 2, []), (.putfield 64, 10, 7, 0, []), (.getfield 7, 10, 1, 2, []), (.putfield 88, 10, 9, 0, []), (.getfield 88, 10, 9, 0, []), (.getfield 127, 10, 11, 0, []), (.getfield 26, 10, 6, 2, []), (.getfield 156, 10, 13, 1, []), (.getfield 160, 10, 12, 0, []), (.putfield 156, 10, 13, 1, []), (.putfield 160, 10, 12, 0, []), (.putfield 163, 10, 10, 0, []), (.putfield 127, 10, 11, 0, []), (.getfield 163, 10, 10, 0, []), (.ldc2_w 189, 1, 1, 0, [])]
theorem lkX9_ok {nL : Nat} : ∀ q ∈ lkX9, ∀ pc, aEx RX9 nL false pc q.1 q.2.1 q.2.2.1 q.2.2.2.1 q.2.2.2.2 := List.forall_mem_cons.mpr ⟨fun _ => flX9_32, List.forall_mem_cons.mpr ⟨fun _ => ⟨flX9_32, RX9, TX9, 14, rfl, Or.inl rfl⟩, List.forall_mem_cons.mpr ⟨fun _ => flX9_29, List.forall_mem_cons.mpr ⟨fun _ => aT_mem 959 (by decide +kernel) rfl, List.forall_mem_cons.mpr ⟨fun _ => aT_mem 954 (by decide +kernel) rfl, List.forall_mem_cons.mpr ⟨fun _ => flX9_64, List.forall_mem_cons.mpr ⟨fun _ => flX9_13, List.forall_mem_cons.mpr ⟨fun _ => flX9_17, List.forall_mem_cons.mpr ⟨fun _ => flX9_20, List.forall_mem_cons.mpr ⟨fun _ => flX9_23, List.forall_mem_cons.mpr ⟨fun _ => ⟨flX9_64, RX9, TX9, 14, rfl, Or.inl rfl⟩, List.forall_mem_cons.mpr ⟨fun _ => flX9_7, List.forall_mem_cons.mpr ⟨fun _ => ⟨flX9_88, RX9, TX9, 14, rfl, Or.inl rfl⟩, List.forall_mem_cons.mpr ⟨fun _ => flX9_88, List.forall_mem_cons.mpr ⟨fun _ => flX9_127, List.forall_mem_cons.mpr ⟨fun _ => flX9_26, List.forall_mem_cons.mpr ⟨fun _ => flX9_156, List.forall_mem_cons.mpr ⟨fun _ => flX9_160, List.forall_mem_cons.mpr ⟨fun _ => ⟨flX9_156, RX9, TX9, 14, rfl, Or.inl rfl⟩, List.forall_mem_cons.mpr ⟨fun _ => ⟨flX9_160, RX9, TX9, 14, rfl, Or.inl rfl⟩, List.forall_mem_cons.mpr ⟨fun _ => ⟨flX9_163, RX9, TX9, 14, rfl, Or.inl rfl⟩, List.forall_mem_cons.mpr ⟨fun _ => ⟨flX9_127, RX9, TX9, 14, rfl, Or.inl rfl⟩, List.forall_mem_cons.mpr ⟨fun _ => flX9_163, List.forall_mem_cons.mpr ⟨fun _ => aT_mem 1028 (by decide +kernel) rfl, fun _ h => absurd h List.not_mem_nil⟩⟩⟩⟩⟩⟩⟩⟩⟩⟩⟩⟩⟩⟩⟩⟩⟩⟩⟩⟩⟩⟩⟩⟩
def lkX9i : List aIn := [(.newarray .byte, 1, 0, 0, []), (.putfield 7, 10, 1, 2, []), (.newarray .int, 0, 0, 0, []), (.putfield 13, 10, 2, 2, []), (.putfield 17, 10, 3, 2, []), (.putfield 20, 10, 4, 2, []), (.putfield 23, 10, 5, 2, []), (.putfield 26, 10, 6, 2, []), (.putfield 29, 10, 8, 2, [])]
theorem lkX9i_ok {nL : Nat} : ∀ q ∈ lkX9i, ∀ pc, aEx RX9 nL true pc q.1 q.2.1 q.2.2.1 q.2.2.2.1 q.2.2.2.2 := List.forall_mem_cons.mpr ⟨fun _ => ⟨by decide, rfl, aT_mem 308 (by decide +kernel) rfl⟩, List.forall_mem_cons.mpr ⟨fun _ => ⟨flX9_7, RX9, TX9, 14, rfl, Or.inr ⟨rfl, rfl⟩⟩, List.forall_mem_cons.mpr ⟨fun _ => ⟨by decide, rfl, aT_mem 119 (by decide +kernel) rfl⟩, List.forall_mem_cons.mpr ⟨fun _ => ⟨flX9_13, RX9, TX9, 14, rfl, Or.inr ⟨rfl, rfl⟩⟩, List.forall_mem_cons.mpr ⟨fun _ => ⟨flX9_17, RX9, TX9, 14, rfl, Or.inr ⟨rfl, rfl⟩⟩, List.forall_mem_cons.mpr ⟨fun _ => ⟨flX9_20, RX9, TX9, 14, rfl, Or.inr ⟨rfl, rfl⟩⟩, List.forall_mem_cons.mpr ⟨fun _ => ⟨flX9_23, RX9, TX9, 14, rfl, Or.inr ⟨rfl, rfl⟩⟩, List.forall_mem_cons.mpr ⟨fun _ => ⟨flX9_26, RX9, TX9, 14, rfl, Or.inr ⟨rfl, rfl⟩⟩, List.forall_mem_cons.mpr ⟨fun _ => ⟨flX9_29, RX9, TX9, 14, rfl, Or.inr ⟨rfl, rfl⟩⟩, fun _ h => absurd h List.not_mem_nil⟩⟩⟩⟩⟩⟩⟩⟩⟩
end
section
/-! links: methods (printed by gen.py) -/
theorem lvX8_63 : aLkV RX8 63 9 yX8_findWithByte cX8_findWithByte 4 2 (some (.object "PackedDecimals$Numeral")) := ⟨RX8, TX8, 8, rfl, aT_mem 358 (by decide +kernel) rfl, aT_mem 360 (by decide +kernel) rfl, aT_mem 1 (by decide +kernel) rfl, aT_mem 72 (by decide +kernel) rfl, aT_mem 361 (by decide +kernel) rfl, rfl, by decide, by decide, by decide +kernel⟩
theorem lvX8_67 : aLkV RX8 67 5 yX4_put cX4_put 3 2 none := ⟨RX4, TX4, 5, rfl, aT_mem 388 (by decide +kernel) rfl, aT_mem 389 (by decide +kernel) rfl, aT_mem 390 (by decide +kernel) rfl, aT_mem 84 (by decide +kernel) rfl, aT_mem 391 (by decide +kernel) rfl, rfl, by decide, by decide, by decide +kernel⟩
theorem lvX8_71 : aLkV RX8 71 5 yX4_get cX4_get 2 1 (some .int) := ⟨RX4, TX4, 5, rfl, aT_mem 399 (by decide +kernel) rfl, aT_mem 400 (by decide +kernel) rfl, aT_mem 401 (by decide +kernel) rfl, aT_mem 84 (by decide +kernel) rfl, aT_mem 402 (by decide +kernel) rfl, rfl, by decide, by decide, by decide +kernel⟩
theorem lvX8_75 : aLkV RX8 75 9 yX8_find cX8_find 2 1 (some (.object "PackedDecimals$Numeral")) := ⟨RX8, TX8, 8, rfl, aT_mem 362 (by decide +kernel) rfl, aT_mem 364 (by decide +kernel) rfl, aT_mem 2 (by decide +kernel) rfl, aT_mem 72 (by decide +kernel) rfl, aT_mem 365 (by decide +kernel) rfl, rfl, by decide, by decide, by decide +kernel⟩
theorem lvX8_83 : aLkV RX8 83 6 yX5_read cX5_read 4 2 (some .boolean) := ⟨RX5, TX5, 1, rfl, aT_mem 418 (by decide +kernel) rfl, aT_mem 419 (by decide +kernel) rfl, aT_mem 420 (by decide +kernel) rfl, aT_mem 73 (by decide +kernel) rfl, aT_mem 421 (by decide +kernel) rfl, rfl, by decide, by decide, by decide +kernel⟩
theorem lvX8_87 : aLkV RX8 87 2 yX0_wholeBits cX0_wholeBits 2 1 (some .long) := ⟨RX0, TX0, 4, rfl, aT_mem 552 (by decide +kernel) rfl, aT_mem 553 (by decide +kernel) rfl, aT_mem 554 (by decide +kernel) rfl, aT_mem 75 (by decide +kernel) rfl, aT_mem 555 (by decide +kernel) rfl, rfl, by decide, by decide, by decide +kernel⟩
theorem lvX8_96 : aLkV RX8 96 9 yX8_calculate cX8_calculate 3 2 (some .boolean) := ⟨RX8, TX8, 8, rfl, aT_mem 604 (by decide +kernel) rfl, aT_mem 606 (by decide +kernel) rfl, aT_mem 15 (by decide +kernel) rfl, aT_mem 72 (by decide +kernel) rfl, aT_mem 607 (by decide +kernel) rfl, rfl, by decide, by decide, by decide +kernel⟩
theorem lvX8_100 : aLkV RX8 100 7 yX6_store cX6_store 4 2 (some .boolean) := ⟨RX6, TX6, 6, rfl, aT_mem 669 (by decide +kernel) rfl, aT_mem 670 (by decide +kernel) rfl, aT_mem 671 (by decide +kernel) rfl, aT_mem 76 (by decide +kernel) rfl, aT_mem 672 (by decide +kernel) rfl, rfl, by decide, by decide, by decide +kernel⟩
theorem lvX8_103 : aLkV RX8 103 2 yX0_order cX0_order 3 2 (some .int) := ⟨RX0, TX0, 4, rfl, aT_mem 782 (by decide +kernel) rfl, aT_mem 783 (by decide +kernel) rfl, aT_mem 784 (by decide +kernel) rfl, aT_mem 75 (by decide +kernel) rfl, aT_mem 785 (by decide +kernel) rfl, rfl, by decide, by decide, by decide +kernel⟩
theorem lvX8_107 : aLkV RX8 107 7 yX6_move cX6_move 5 2 (some .boolean) := ⟨RX6, TX6, 6, rfl, aT_mem 800 (by decide +kernel) rfl, aT_mem 801 (by decide +kernel) rfl, aT_mem 802 (by decide +kernel) rfl, aT_mem 76 (by decide +kernel) rfl, aT_mem 803 (by decide +kernel) rfl, rfl, by decide, by decide, by decide +kernel⟩
theorem lvX8_110 : aLkV RX8 110 5 yX4_floating cX4_floating 1 0 (some .boolean) := ⟨RX4, TX4, 5, rfl, aT_mem 819 (by decide +kernel) rfl, aT_mem 541 (by decide +kernel) rfl, aT_mem 542 (by decide +kernel) rfl, aT_mem 84 (by decide +kernel) rfl, aT_mem 543 (by decide +kernel) rfl, rfl, by decide, by decide, by decide +kernel⟩
theorem lvX8_118 : aLkV RX8 118 4 yX3_takeDigit cX3_takeDigit 4 0 (some .int) := ⟨RX3, TX3, 2, rfl, aT_mem 820 (by decide +kernel) rfl, aT_mem 748 (by decide +kernel) rfl, aT_mem 749 (by decide +kernel) rfl, aT_mem 74 (by decide +kernel) rfl, aT_mem 750 (by decide +kernel) rfl, rfl, by decide, by decide, by decide +kernel⟩
theorem lvX8_138 : aLkV RX8 138 2 yX0_add cX0_add 5 4 none := ⟨RX0, TX0, 4, rfl, aT_mem 608 (by decide +kernel) rfl, aT_mem 609 (by decide +kernel) rfl, aT_mem 610 (by decide +kernel) rfl, aT_mem 75 (by decide +kernel) rfl, aT_mem 611 (by decide +kernel) rfl, rfl, by decide, by decide, by decide +kernel⟩
theorem lvX8_142 : aLkV RX8 142 2 yX0_multiply cX0_multiply 4 3 none := ⟨RX0, TX0, 4, rfl, aT_mem 636 (by decide +kernel) rfl, aT_mem 637 (by decide +kernel) rfl, aT_mem 638 (by decide +kernel) rfl, aT_mem 75 (by decide +kernel) rfl, aT_mem 639 (by decide +kernel) rfl, rfl, by decide, by decide, by decide +kernel⟩
theorem lvX8_146 : aLkV RX8 146 2 yX0_divide cX0_divide 4 3 (some .boolean) := ⟨RX0, TX0, 4, rfl, aT_mem 641 (by decide +kernel) rfl, aT_mem 642 (by decide +kernel) rfl, aT_mem 643 (by decide +kernel) rfl, aT_mem 75 (by decide +kernel) rfl, aT_mem 644 (by decide +kernel) rfl, rfl, by decide, by decide, by decide +kernel⟩
theorem lvX8_150 : aLkV RX8 150 2 yX0_divideWhole cX0_divideWhole 6 3 (some .boolean) := ⟨RX0, TX0, 4, rfl, aT_mem 646 (by decide +kernel) rfl, aT_mem 647 (by decide +kernel) rfl, aT_mem 648 (by decide +kernel) rfl, aT_mem 75 (by decide +kernel) rfl, aT_mem 649 (by decide +kernel) rfl, rfl, by decide, by decide, by decide +kernel⟩
theorem lvX8_153 : aLkV RX8 153 2 yX0_shift cX0_shift 4 3 none := ⟨RX0, TX0, 4, rfl, aT_mem 656 (by decide +kernel) rfl, aT_mem 657 (by decide +kernel) rfl, aT_mem 658 (by decide +kernel) rfl, aT_mem 75 (by decide +kernel) rfl, aT_mem 659 (by decide +kernel) rfl, rfl, by decide, by decide, by decide +kernel⟩
theorem lvX8_157 : aLkV RX8 157 2 yX0_remainder cX0_remainder 4 3 (some .boolean) := ⟨RX0, TX0, 4, rfl, aT_mem 661 (by decide +kernel) rfl, aT_mem 662 (by decide +kernel) rfl, aT_mem 663 (by decide +kernel) rfl, aT_mem 75 (by decide +kernel) rfl, aT_mem 664 (by decide +kernel) rfl, rfl, by decide, by decide, by decide +kernel⟩
theorem lvX8_160 : aLkV RX8 160 2 yX0_remainderWhole cX0_remainderWhole 6 3 (some .boolean) := ⟨RX0, TX0, 4, rfl, aT_mem 665 (by decide +kernel) rfl, aT_mem 666 (by decide +kernel) rfl, aT_mem 667 (by decide +kernel) rfl, aT_mem 75 (by decide +kernel) rfl, aT_mem 668 (by decide +kernel) rfl, rfl, by decide, by decide, by decide +kernel⟩
theorem lvX0_25 : aLkV RX0 25 2 yX0_cross cX0_cross 3 2 none := ⟨RX0, TX0, 4, rfl, aT_mem 612 (by decide +kernel) rfl, aT_mem 614 (by decide +kernel) rfl, aT_mem 16 (by decide +kernel) rfl, aT_mem 75 (by decide +kernel) rfl, aT_mem 615 (by decide +kernel) rfl, rfl, by decide, by decide, by decide +kernel⟩
theorem lvX0_34 : aLkV RX0 34 4 yX3_becomeProduct cX3_becomeProduct 7 2 none := ⟨RX3, TX3, 2, rfl, aT_mem 616 (by decide +kernel) rfl, aT_mem 617 (by decide +kernel) rfl, aT_mem 618 (by decide +kernel) rfl, aT_mem 74 (by decide +kernel) rfl, aT_mem 619 (by decide +kernel) rfl, rfl, by decide, by decide, by decide +kernel⟩
theorem lvX0_42 : aLkV RX0 42 4 yX3_plus cX3_plus 6 1 none := ⟨RX3, TX3, 2, rfl, aT_mem 620 (by decide +kernel) rfl, aT_mem 621 (by decide +kernel) rfl, aT_mem 622 (by decide +kernel) rfl, aT_mem 74 (by decide +kernel) rfl, aT_mem 623 (by decide +kernel) rfl, rfl, by decide, by decide, by decide +kernel⟩
theorem lvX0_46 : aLkV RX0 46 3 yX2_becomeOver cX2_becomeOver 3 2 none := ⟨RX2, TX2, 3, rfl, aT_mem 625 (by decide +kernel) rfl, aT_mem 626 (by decide +kernel) rfl, aT_mem 627 (by decide +kernel) rfl, aT_mem 78 (by decide +kernel) rfl, aT_mem 628 (by decide +kernel) rfl, rfl, by decide, by decide, by decide +kernel⟩
theorem lvX0_50 : aLkV RX0 50 4 yX3_against cX3_against 3 1 (some .int) := ⟨RX3, TX3, 2, rfl, aT_mem 631 (by decide +kernel) rfl, aT_mem 489 (by decide +kernel) rfl, aT_mem 490 (by decide +kernel) rfl, aT_mem 74 (by decide +kernel) rfl, aT_mem 491 (by decide +kernel) rfl, rfl, by decide, by decide, by decide +kernel⟩
theorem lvX0_54 : aLkV RX0 54 4 yX3_minus cX3_minus 5 1 none := ⟨RX3, TX3, 2, rfl, aT_mem 632 (by decide +kernel) rfl, aT_mem 633 (by decide +kernel) rfl, aT_mem 634 (by decide +kernel) rfl, aT_mem 74 (by decide +kernel) rfl, aT_mem 635 (by decide +kernel) rfl, rfl, by decide, by decide, by decide +kernel⟩
theorem lvX0_60 : aLkV RX0 60 3 yX2_sign cX2_sign 2 1 none := ⟨RX2, TX2, 3, rfl, aT_mem 640 (by decide +kernel) rfl, aT_mem 545 (by decide +kernel) rfl, aT_mem 546 (by decide +kernel) rfl, aT_mem 78 (by decide +kernel) rfl, aT_mem 547 (by decide +kernel) rfl, rfl, by decide, by decide, by decide +kernel⟩
theorem lvX0_64 : aLkV RX0 64 4 yX3_isZero cX3_isZero 1 0 (some .boolean) := ⟨RX3, TX3, 2, rfl, aT_mem 645 (by decide +kernel) rfl, aT_mem 549 (by decide +kernel) rfl, aT_mem 550 (by decide +kernel) rfl, aT_mem 74 (by decide +kernel) rfl, aT_mem 551 (by decide +kernel) rfl, rfl, by decide, by decide, by decide +kernel⟩
theorem lvX0_68 : aLkV RX0 68 4 yX3_divide cX3_divide 7 3 none := ⟨RX3, TX3, 2, rfl, aT_mem 560 (by decide +kernel) rfl, aT_mem 561 (by decide +kernel) rfl, aT_mem 562 (by decide +kernel) rfl, aT_mem 74 (by decide +kernel) rfl, aT_mem 563 (by decide +kernel) rfl, rfl, by decide, by decide, by decide +kernel⟩
theorem lvX0_72 : aLkV RX0 72 4 yX3_copy cX3_copy 3 1 none := ⟨RX3, TX3, 2, rfl, aT_mem 556 (by decide +kernel) rfl, aT_mem 557 (by decide +kernel) rfl, aT_mem 558 (by decide +kernel) rfl, aT_mem 74 (by decide +kernel) rfl, aT_mem 559 (by decide +kernel) rfl, rfl, by decide, by decide, by decide +kernel⟩
theorem lvX0_75 : aLkV RX0 75 4 yX3_timesTenTo cX3_timesTenTo 3 1 none := ⟨RX3, TX3, 2, rfl, aT_mem 660 (by decide +kernel) rfl, aT_mem 479 (by decide +kernel) rfl, aT_mem 480 (by decide +kernel) rfl, aT_mem 74 (by decide +kernel) rfl, aT_mem 481 (by decide +kernel) rfl, rfl, by decide, by decide, by decide +kernel⟩
theorem lvX0_79 : aLkV RX0 79 2 yX0_wholeBits cX0_wholeBits 2 1 (some .long) := ⟨RX0, TX0, 4, rfl, aT_mem 650 (by decide +kernel) rfl, aT_mem 553 (by decide +kernel) rfl, aT_mem 554 (by decide +kernel) rfl, aT_mem 75 (by decide +kernel) rfl, aT_mem 555 (by decide +kernel) rfl, rfl, by decide, by decide, by decide +kernel⟩
theorem lvX0_83 : aLkV RX0 83 3 yX2_becomeWhole cX2_becomeWhole 3 1 none := ⟨RX2, TX2, 3, rfl, aT_mem 651 (by decide +kernel) rfl, aT_mem 652 (by decide +kernel) rfl, aT_mem 653 (by decide +kernel) rfl, aT_mem 78 (by decide +kernel) rfl, aT_mem 654 (by decide +kernel) rfl, rfl, by decide, by decide, by decide +kernel⟩
theorem lvX0_87 : aLkV RX0 87 4 yX3_lowBits cX3_lowBits 1 0 (some .long) := ⟨RX3, TX3, 2, rfl, aT_mem 584 (by decide +kernel) rfl, aT_mem 585 (by decide +kernel) rfl, aT_mem 586 (by decide +kernel) rfl, aT_mem 74 (by decide +kernel) rfl, aT_mem 587 (by decide +kernel) rfl, rfl, by decide, by decide, by decide +kernel⟩
theorem lvX2_19 : aLkV RX2 19 4 yX3_isZero cX3_isZero 1 0 (some .boolean) := ⟨RX3, TX3, 2, rfl, aT_mem 548 (by decide +kernel) rfl, aT_mem 549 (by decide +kernel) rfl, aT_mem 550 (by decide +kernel) rfl, aT_mem 74 (by decide +kernel) rfl, aT_mem 551 (by decide +kernel) rfl, rfl, by decide, by decide, by decide +kernel⟩
theorem lvX2_27 : aLkV RX2 27 4 yX3_copy cX3_copy 3 1 none := ⟨RX3, TX3, 2, rfl, aT_mem 629 (by decide +kernel) rfl, aT_mem 557 (by decide +kernel) rfl, aT_mem 558 (by decide +kernel) rfl, aT_mem 74 (by decide +kernel) rfl, aT_mem 559 (by decide +kernel) rfl, rfl, by decide, by decide, by decide +kernel⟩
theorem lvX2_31 : aLkV RX2 31 3 yX2_sign cX2_sign 2 1 none := ⟨RX2, TX2, 3, rfl, aT_mem 630 (by decide +kernel) rfl, aT_mem 545 (by decide +kernel) rfl, aT_mem 546 (by decide +kernel) rfl, aT_mem 78 (by decide +kernel) rfl, aT_mem 547 (by decide +kernel) rfl, rfl, by decide, by decide, by decide +kernel⟩
theorem lvX2_35 : aLkV RX2 35 4 yX3_become cX3_become 3 1 none := ⟨RX3, TX3, 2, rfl, aT_mem 655 (by decide +kernel) rfl, aT_mem 423 (by decide +kernel) rfl, aT_mem 424 (by decide +kernel) rfl, aT_mem 74 (by decide +kernel) rfl, aT_mem 425 (by decide +kernel) rfl, rfl, by decide, by decide, by decide +kernel⟩
theorem lvX3_17 : aLkV RX3 17 4 yX3_clear cX3_clear 2 0 none := ⟨RX3, TX3, 2, rfl, aT_mem 426 (by decide +kernel) rfl, aT_mem 427 (by decide +kernel) rfl, aT_mem 428 (by decide +kernel) rfl, aT_mem 74 (by decide +kernel) rfl, aT_mem 429 (by decide +kernel) rfl, rfl, by decide, by decide, by decide +kernel⟩
theorem lvX3_21 : aLkV RX3 21 4 yX3_settle cX3_settle 2 1 none := ⟨RX3, TX3, 2, rfl, aT_mem 431 (by decide +kernel) rfl, aT_mem 433 (by decide +kernel) rfl, aT_mem 3 (by decide +kernel) rfl, aT_mem 74 (by decide +kernel) rfl, aT_mem 434 (by decide +kernel) rfl, rfl, by decide, by decide, by decide +kernel⟩
theorem lvX3_25 : aLkV RX3 25 4 yX3_topLength cX3_topLength 2 0 (some .int) := ⟨RX3, TX3, 2, rfl, aT_mem 565 (by decide +kernel) rfl, aT_mem 567 (by decide +kernel) rfl, aT_mem 11 (by decide +kernel) rfl, aT_mem 74 (by decide +kernel) rfl, aT_mem 568 (by decide +kernel) rfl, rfl, by decide, by decide, by decide +kernel⟩
theorem lvX3_38 : aLkV RX3 38 4 yX3_timesPlus cX3_timesPlus 6 2 none := ⟨RX3, TX3, 2, rfl, aT_mem 487 (by decide +kernel) rfl, aT_mem 456 (by decide +kernel) rfl, aT_mem 457 (by decide +kernel) rfl, aT_mem 74 (by decide +kernel) rfl, aT_mem 458 (by decide +kernel) rfl, rfl, by decide, by decide, by decide +kernel⟩
theorem lvX3_47 : aLkV RX3 47 4 yX3_shiftRight cX3_shiftRight 5 1 none := ⟨RX3, TX3, 2, rfl, aT_mem 580 (by decide +kernel) rfl, aT_mem 582 (by decide +kernel) rfl, aT_mem 14 (by decide +kernel) rfl, aT_mem 74 (by decide +kernel) rfl, aT_mem 583 (by decide +kernel) rfl, rfl, by decide, by decide, by decide +kernel⟩
theorem lvX3_50 : aLkV RX3 50 4 yX3_against cX3_against 3 1 (some .int) := ⟨RX3, TX3, 2, rfl, aT_mem 564 (by decide +kernel) rfl, aT_mem 489 (by decide +kernel) rfl, aT_mem 490 (by decide +kernel) rfl, aT_mem 74 (by decide +kernel) rfl, aT_mem 491 (by decide +kernel) rfl, rfl, by decide, by decide, by decide +kernel⟩
theorem lvX3_54 : aLkV RX3 54 4 yX3_copy cX3_copy 3 1 none := ⟨RX3, TX3, 2, rfl, aT_mem 569 (by decide +kernel) rfl, aT_mem 557 (by decide +kernel) rfl, aT_mem 558 (by decide +kernel) rfl, aT_mem 74 (by decide +kernel) rfl, aT_mem 559 (by decide +kernel) rfl, rfl, by decide, by decide, by decide +kernel⟩
theorem lvX3_58 : aLkV RX3 58 4 yX3_shiftLeft cX3_shiftLeft 7 1 none := ⟨RX3, TX3, 2, rfl, aT_mem 570 (by decide +kernel) rfl, aT_mem 514 (by decide +kernel) rfl, aT_mem 515 (by decide +kernel) rfl, aT_mem 74 (by decide +kernel) rfl, aT_mem 516 (by decide +kernel) rfl, rfl, by decide, by decide, by decide +kernel⟩
theorem lvX3_61 : aLkV RX3 61 4 yX3_takeTimes cX3_takeTimes 9 2 (some .int) := ⟨RX3, TX3, 2, rfl, aT_mem 571 (by decide +kernel) rfl, aT_mem 573 (by decide +kernel) rfl, aT_mem 12 (by decide +kernel) rfl, aT_mem 74 (by decide +kernel) rfl, aT_mem 574 (by decide +kernel) rfl, rfl, by decide, by decide, by decide +kernel⟩
theorem lvX3_65 : aLkV RX3 65 4 yX3_guessTimes cX3_guessTimes 17 2 (some .int) := ⟨RX3, TX3, 2, rfl, aT_mem 575 (by decide +kernel) rfl, aT_mem 577 (by decide +kernel) rfl, aT_mem 13 (by decide +kernel) rfl, aT_mem 74 (by decide +kernel) rfl, aT_mem 578 (by decide +kernel) rfl, rfl, by decide, by decide, by decide +kernel⟩
theorem lvX4_34 : aLkV RX4 34 5 yX4_get cX4_get 2 1 (some .int) := ⟨RX4, TX4, 5, rfl, aT_mem 451 (by decide +kernel) rfl, aT_mem 400 (by decide +kernel) rfl, aT_mem 401 (by decide +kernel) rfl, aT_mem 84 (by decide +kernel) rfl, aT_mem 402 (by decide +kernel) rfl, rfl, by decide, by decide, by decide +kernel⟩
theorem lvX4_38 : aLkV RX4 38 5 yX4_put cX4_put 3 2 none := ⟨RX4, TX4, 5, rfl, aT_mem 746 (by decide +kernel) rfl, aT_mem 389 (by decide +kernel) rfl, aT_mem 390 (by decide +kernel) rfl, aT_mem 84 (by decide +kernel) rfl, aT_mem 391 (by decide +kernel) rfl, rfl, by decide, by decide, by decide +kernel⟩
theorem lvX5_27 : aLkV RX5 27 4 yX3_become cX3_become 3 1 none := ⟨RX3, TX3, 2, rfl, aT_mem 422 (by decide +kernel) rfl, aT_mem 423 (by decide +kernel) rfl, aT_mem 424 (by decide +kernel) rfl, aT_mem 74 (by decide +kernel) rfl, aT_mem 425 (by decide +kernel) rfl, rfl, by decide, by decide, by decide +kernel⟩
theorem lvX5_34 : aLkV RX5 34 6 yX5_readSize cX5_readSize 3 2 (some .boolean) := ⟨RX5, TX5, 1, rfl, aT_mem 435 (by decide +kernel) rfl, aT_mem 437 (by decide +kernel) rfl, aT_mem 4 (by decide +kernel) rfl, aT_mem 73 (by decide +kernel) rfl, aT_mem 438 (by decide +kernel) rfl, rfl, by decide, by decide, by decide +kernel⟩
theorem lvX5_38 : aLkV RX5 38 5 yX4_floating cX4_floating 1 0 (some .boolean) := ⟨RX4, TX4, 5, rfl, aT_mem 540 (by decide +kernel) rfl, aT_mem 541 (by decide +kernel) rfl, aT_mem 542 (by decide +kernel) rfl, aT_mem 84 (by decide +kernel) rfl, aT_mem 543 (by decide +kernel) rfl, rfl, by decide, by decide, by decide +kernel⟩
theorem lvX5_48 : aLkV RX5 48 4 yX3_timesTenTo cX3_timesTenTo 3 1 none := ⟨RX3, TX3, 2, rfl, aT_mem 478 (by decide +kernel) rfl, aT_mem 479 (by decide +kernel) rfl, aT_mem 480 (by decide +kernel) rfl, aT_mem 74 (by decide +kernel) rfl, aT_mem 481 (by decide +kernel) rfl, rfl, by decide, by decide, by decide +kernel⟩
theorem lvX5_52 : aLkV RX5 52 3 yX2_sign cX2_sign 2 1 none := ⟨RX2, TX2, 3, rfl, aT_mem 544 (by decide +kernel) rfl, aT_mem 545 (by decide +kernel) rfl, aT_mem 546 (by decide +kernel) rfl, aT_mem 78 (by decide +kernel) rfl, aT_mem 547 (by decide +kernel) rfl, rfl, by decide, by decide, by decide +kernel⟩
theorem lvX5_59 : aLkV RX5 59 6 yX5_readPacked cX5_readPacked 5 2 (some .boolean) := ⟨RX5, TX5, 1, rfl, aT_mem 439 (by decide +kernel) rfl, aT_mem 441 (by decide +kernel) rfl, aT_mem 5 (by decide +kernel) rfl, aT_mem 73 (by decide +kernel) rfl, aT_mem 442 (by decide +kernel) rfl, rfl, by decide, by decide, by decide +kernel⟩
theorem lvX5_62 : aLkV RX5 62 6 yX5_readBinary cX5_readBinary 5 2 (some .boolean) := ⟨RX5, TX5, 1, rfl, aT_mem 469 (by decide +kernel) rfl, aT_mem 471 (by decide +kernel) rfl, aT_mem 6 (by decide +kernel) rfl, aT_mem 73 (by decide +kernel) rfl, aT_mem 472 (by decide +kernel) rfl, rfl, by decide, by decide, by decide +kernel⟩
theorem lvX5_68 : aLkV RX5 68 6 yX5_belowTenTo cX5_belowTenTo 3 2 (some .boolean) := ⟨RX5, TX5, 1, rfl, aT_mem 474 (by decide +kernel) rfl, aT_mem 476 (by decide +kernel) rfl, aT_mem 7 (by decide +kernel) rfl, aT_mem 73 (by decide +kernel) rfl, aT_mem 477 (by decide +kernel) rfl, rfl, by decide, by decide, by decide +kernel⟩
theorem lvX5_72 : aLkV RX5 72 6 yX5_readFloating cX5_readFloating 7 2 (some .boolean) := ⟨RX5, TX5, 1, rfl, aT_mem 492 (by decide +kernel) rfl, aT_mem 494 (by decide +kernel) rfl, aT_mem 8 (by decide +kernel) rfl, aT_mem 73 (by decide +kernel) rfl, aT_mem 495 (by decide +kernel) rfl, rfl, by decide, by decide, by decide +kernel⟩
theorem lvX5_75 : aLkV RX5 75 6 yX5_readNational cX5_readNational 5 2 (some .boolean) := ⟨RX5, TX5, 1, rfl, aT_mem 517 (by decide +kernel) rfl, aT_mem 519 (by decide +kernel) rfl, aT_mem 9 (by decide +kernel) rfl, aT_mem 73 (by decide +kernel) rfl, aT_mem 520 (by decide +kernel) rfl, rfl, by decide, by decide, by decide +kernel⟩
theorem lvX5_78 : aLkV RX5 78 6 yX5_readZoned cX5_readZoned 8 2 (some .boolean) := ⟨RX5, TX5, 1, rfl, aT_mem 524 (by decide +kernel) rfl, aT_mem 526 (by decide +kernel) rfl, aT_mem 10 (by decide +kernel) rfl, aT_mem 73 (by decide +kernel) rfl, aT_mem 527 (by decide +kernel) rfl, rfl, by decide, by decide, by decide +kernel⟩
theorem lvX5_81 : aLkV RX5 81 5 yX4_firstZonedByte cX4_firstZonedByte 1 0 (some .int) := ⟨RX4, TX4, 5, rfl, aT_mem 528 (by decide +kernel) rfl, aT_mem 529 (by decide +kernel) rfl, aT_mem 530 (by decide +kernel) rfl, aT_mem 84 (by decide +kernel) rfl, aT_mem 531 (by decide +kernel) rfl, rfl, by decide, by decide, by decide +kernel⟩
theorem lvX5_85 : aLkV RX5 85 5 yX4_signedDigit cX4_signedDigit 1 0 (some .int) := ⟨RX4, TX4, 5, rfl, aT_mem 532 (by decide +kernel) rfl, aT_mem 533 (by decide +kernel) rfl, aT_mem 534 (by decide +kernel) rfl, aT_mem 84 (by decide +kernel) rfl, aT_mem 535 (by decide +kernel) rfl, rfl, by decide, by decide, by decide +kernel⟩
theorem lvX5_88 : aLkV RX5 88 5 yX4_get cX4_get 2 1 (some .int) := ⟨RX4, TX4, 5, rfl, aT_mem 473 (by decide +kernel) rfl, aT_mem 400 (by decide +kernel) rfl, aT_mem 401 (by decide +kernel) rfl, aT_mem 84 (by decide +kernel) rfl, aT_mem 402 (by decide +kernel) rfl, rfl, by decide, by decide, by decide +kernel⟩
theorem lvX5_102 : aLkV RX5 102 5 yX4_signByte cX4_signByte 1 0 (some .int) := ⟨RX4, TX4, 5, rfl, aT_mem 536 (by decide +kernel) rfl, aT_mem 537 (by decide +kernel) rfl, aT_mem 538 (by decide +kernel) rfl, aT_mem 84 (by decide +kernel) rfl, aT_mem 539 (by decide +kernel) rfl, rfl, by decide, by decide, by decide +kernel⟩
theorem lvX5_109 : aLkV RX5 109 5 yX4_packedLead cX4_packedLead 1 0 (some .int) := ⟨RX4, TX4, 5, rfl, aT_mem 443 (by decide +kernel) rfl, aT_mem 444 (by decide +kernel) rfl, aT_mem 445 (by decide +kernel) rfl, aT_mem 84 (by decide +kernel) rfl, aT_mem 446 (by decide +kernel) rfl, rfl, by decide, by decide, by decide +kernel⟩
theorem lvX5_112 : aLkV RX5 112 5 yX4_nibble cX4_nibble 3 1 (some .int) := ⟨RX4, TX4, 5, rfl, aT_mem 447 (by decide +kernel) rfl, aT_mem 448 (by decide +kernel) rfl, aT_mem 449 (by decide +kernel) rfl, aT_mem 84 (by decide +kernel) rfl, aT_mem 450 (by decide +kernel) rfl, rfl, by decide, by decide, by decide +kernel⟩
theorem lvX5_115 : aLkV RX5 115 5 yX4_signless cX4_signless 1 0 (some .boolean) := ⟨RX4, TX4, 5, rfl, aT_mem 459 (by decide +kernel) rfl, aT_mem 460 (by decide +kernel) rfl, aT_mem 461 (by decide +kernel) rfl, aT_mem 84 (by decide +kernel) rfl, aT_mem 462 (by decide +kernel) rfl, rfl, by decide, by decide, by decide +kernel⟩
theorem lvX5_122 : aLkV RX5 122 4 yX3_timesPlus cX3_timesPlus 6 2 none := ⟨RX3, TX3, 2, rfl, aT_mem 455 (by decide +kernel) rfl, aT_mem 456 (by decide +kernel) rfl, aT_mem 457 (by decide +kernel) rfl, aT_mem 74 (by decide +kernel) rfl, aT_mem 458 (by decide +kernel) rfl, rfl, by decide, by decide, by decide +kernel⟩
theorem lvX5_148 : aLkV RX5 148 4 yX3_shiftLeft cX3_shiftLeft 7 1 none := ⟨RX3, TX3, 2, rfl, aT_mem 513 (by decide +kernel) rfl, aT_mem 514 (by decide +kernel) rfl, aT_mem 515 (by decide +kernel) rfl, aT_mem 74 (by decide +kernel) rfl, aT_mem 516 (by decide +kernel) rfl, rfl, by decide, by decide, by decide +kernel⟩
theorem lvX5_151 : aLkV RX5 151 4 yX3_against cX3_against 3 1 (some .int) := ⟨RX3, TX3, 2, rfl, aT_mem 488 (by decide +kernel) rfl, aT_mem 489 (by decide +kernel) rfl, aT_mem 490 (by decide +kernel) rfl, aT_mem 74 (by decide +kernel) rfl, aT_mem 491 (by decide +kernel) rfl, rfl, by decide, by decide, by decide +kernel⟩
theorem lvX6_34 : aLkV RX6 34 5 yX4_floating cX4_floating 1 0 (some .boolean) := ⟨RX4, TX4, 5, rfl, aT_mem 673 (by decide +kernel) rfl, aT_mem 541 (by decide +kernel) rfl, aT_mem 542 (by decide +kernel) rfl, aT_mem 84 (by decide +kernel) rfl, aT_mem 543 (by decide +kernel) rfl, rfl, by decide, by decide, by decide +kernel⟩
theorem lvX6_40 : aLkV RX6 40 7 yX6_storeFloating cX6_storeFloating 5 2 (some .boolean) := ⟨RX6, TX6, 6, rfl, aT_mem 674 (by decide +kernel) rfl, aT_mem 676 (by decide +kernel) rfl, aT_mem 17 (by decide +kernel) rfl, aT_mem 76 (by decide +kernel) rfl, aT_mem 677 (by decide +kernel) rfl, rfl, by decide, by decide, by decide +kernel⟩
theorem lvX6_48 : aLkV RX6 48 7 yX6_split cX6_split 3 2 none := ⟨RX6, TX6, 6, rfl, aT_mem 712 (by decide +kernel) rfl, aT_mem 714 (by decide +kernel) rfl, aT_mem 21 (by decide +kernel) rfl, aT_mem 76 (by decide +kernel) rfl, aT_mem 715 (by decide +kernel) rfl, rfl, by decide, by decide, by decide +kernel⟩
theorem lvX6_52 : aLkV RX6 52 4 yX3_isZero cX3_isZero 1 0 (some .boolean) := ⟨RX3, TX3, 2, rfl, aT_mem 682 (by decide +kernel) rfl, aT_mem 549 (by decide +kernel) rfl, aT_mem 550 (by decide +kernel) rfl, aT_mem 74 (by decide +kernel) rfl, aT_mem 551 (by decide +kernel) rfl, rfl, by decide, by decide, by decide +kernel⟩
theorem lvX6_58 : aLkV RX6 58 7 yX6_roundsAway cX6_roundsAway 4 2 (some .boolean) := ⟨RX6, TX6, 6, rfl, aT_mem 717 (by decide +kernel) rfl, aT_mem 719 (by decide +kernel) rfl, aT_mem 22 (by decide +kernel) rfl, aT_mem 76 (by decide +kernel) rfl, aT_mem 720 (by decide +kernel) rfl, rfl, by decide, by decide, by decide +kernel⟩
theorem lvX6_62 : aLkV RX6 62 4 yX3_timesPlus cX3_timesPlus 6 2 none := ⟨RX3, TX3, 2, rfl, aT_mem 726 (by decide +kernel) rfl, aT_mem 456 (by decide +kernel) rfl, aT_mem 457 (by decide +kernel) rfl, aT_mem 74 (by decide +kernel) rfl, aT_mem 458 (by decide +kernel) rfl, rfl, by decide, by decide, by decide +kernel⟩
theorem lvX6_72 : aLkV RX6 72 5 yX4_signless cX4_signless 1 0 (some .boolean) := ⟨RX4, TX4, 5, rfl, aT_mem 727 (by decide +kernel) rfl, aT_mem 460 (by decide +kernel) rfl, aT_mem 461 (by decide +kernel) rfl, aT_mem 84 (by decide +kernel) rfl, aT_mem 462 (by decide +kernel) rfl, rfl, by decide, by decide, by decide +kernel⟩
theorem lvX6_75 : aLkV RX6 75 7 yX6_fits cX6_fits 4 2 (some .boolean) := ⟨RX6, TX6, 6, rfl, aT_mem 728 (by decide +kernel) rfl, aT_mem 730 (by decide +kernel) rfl, aT_mem 23 (by decide +kernel) rfl, aT_mem 76 (by decide +kernel) rfl, aT_mem 731 (by decide +kernel) rfl, rfl, by decide, by decide, by decide +kernel⟩
theorem lvX6_79 : aLkV RX6 79 8 yX7_write cX7_write 4 3 none := ⟨RX7, TX7, 0, rfl, aT_mem 733 (by decide +kernel) rfl, aT_mem 734 (by decide +kernel) rfl, aT_mem 735 (by decide +kernel) rfl, aT_mem 77 (by decide +kernel) rfl, aT_mem 736 (by decide +kernel) rfl, rfl, by decide, by decide, by decide +kernel⟩
theorem lvX6_83 : aLkV RX6 83 7 yX6_moveFloating cX6_moveFloating 5 2 (some .boolean) := ⟨RX6, TX6, 6, rfl, aT_mem 804 (by decide +kernel) rfl, aT_mem 806 (by decide +kernel) rfl, aT_mem 28 (by decide +kernel) rfl, aT_mem 76 (by decide +kernel) rfl, aT_mem 807 (by decide +kernel) rfl, rfl, by decide, by decide, by decide +kernel⟩
theorem lvX6_92 : aLkV RX6 92 7 yX6_keepDigits cX6_keepDigits 2 1 none := ⟨RX6, TX6, 6, rfl, aT_mem 808 (by decide +kernel) rfl, aT_mem 810 (by decide +kernel) rfl, aT_mem 29 (by decide +kernel) rfl, aT_mem 76 (by decide +kernel) rfl, aT_mem 811 (by decide +kernel) rfl, rfl, by decide, by decide, by decide +kernel⟩
theorem lvX6_96 : aLkV RX6 96 7 yX6_nearest cX6_nearest 10 2 (some .long) := ⟨RX6, TX6, 6, rfl, aT_mem 678 (by decide +kernel) rfl, aT_mem 680 (by decide +kernel) rfl, aT_mem 18 (by decide +kernel) rfl, aT_mem 76 (by decide +kernel) rfl, aT_mem 681 (by decide +kernel) rfl, rfl, by decide, by decide, by decide +kernel⟩
theorem lvX6_105 : aLkV RX6 105 8 yX7_writeFloating cX7_writeFloating 8 3 none := ⟨RX7, TX7, 0, rfl, aT_mem 705 (by decide +kernel) rfl, aT_mem 706 (by decide +kernel) rfl, aT_mem 707 (by decide +kernel) rfl, aT_mem 77 (by decide +kernel) rfl, aT_mem 708 (by decide +kernel) rfl, rfl, by decide, by decide, by decide +kernel⟩
theorem lvX6_112 : aLkV RX6 112 4 yX3_copy cX3_copy 3 1 none := ⟨RX3, TX3, 2, rfl, aT_mem 688 (by decide +kernel) rfl, aT_mem 557 (by decide +kernel) rfl, aT_mem 558 (by decide +kernel) rfl, aT_mem 74 (by decide +kernel) rfl, aT_mem 559 (by decide +kernel) rfl, rfl, by decide, by decide, by decide +kernel⟩
theorem lvX6_116 : aLkV RX6 116 4 yX3_timesTenTo cX3_timesTenTo 3 1 none := ⟨RX3, TX3, 2, rfl, aT_mem 716 (by decide +kernel) rfl, aT_mem 479 (by decide +kernel) rfl, aT_mem 480 (by decide +kernel) rfl, aT_mem 74 (by decide +kernel) rfl, aT_mem 481 (by decide +kernel) rfl, rfl, by decide, by decide, by decide +kernel⟩
theorem lvX6_120 : aLkV RX6 120 4 yX3_divide cX3_divide 7 3 none := ⟨RX3, TX3, 2, rfl, aT_mem 695 (by decide +kernel) rfl, aT_mem 561 (by decide +kernel) rfl, aT_mem 562 (by decide +kernel) rfl, aT_mem 74 (by decide +kernel) rfl, aT_mem 563 (by decide +kernel) rfl, rfl, by decide, by decide, by decide +kernel⟩
theorem lvX6_124 : aLkV RX6 124 4 yX3_shiftLeft cX3_shiftLeft 7 1 none := ⟨RX3, TX3, 2, rfl, aT_mem 694 (by decide +kernel) rfl, aT_mem 514 (by decide +kernel) rfl, aT_mem 515 (by decide +kernel) rfl, aT_mem 74 (by decide +kernel) rfl, aT_mem 516 (by decide +kernel) rfl, rfl, by decide, by decide, by decide +kernel⟩
theorem lvX6_127 : aLkV RX6 127 4 yX3_against cX3_against 3 1 (some .int) := ⟨RX3, TX3, 2, rfl, aT_mem 721 (by decide +kernel) rfl, aT_mem 489 (by decide +kernel) rfl, aT_mem 490 (by decide +kernel) rfl, aT_mem 74 (by decide +kernel) rfl, aT_mem 491 (by decide +kernel) rfl, rfl, by decide, by decide, by decide +kernel⟩
theorem lvX6_131 : aLkV RX6 131 4 yX3_isOdd cX3_isOdd 1 0 (some .boolean) := ⟨RX3, TX3, 2, rfl, aT_mem 722 (by decide +kernel) rfl, aT_mem 723 (by decide +kernel) rfl, aT_mem 724 (by decide +kernel) rfl, aT_mem 74 (by decide +kernel) rfl, aT_mem 725 (by decide +kernel) rfl, rfl, by decide, by decide, by decide +kernel⟩
theorem lvX6_134 : aLkV RX6 134 4 yX3_become cX3_become 3 1 none := ⟨RX3, TX3, 2, rfl, aT_mem 732 (by decide +kernel) rfl, aT_mem 423 (by decide +kernel) rfl, aT_mem 424 (by decide +kernel) rfl, aT_mem 74 (by decide +kernel) rfl, aT_mem 425 (by decide +kernel) rfl, rfl, by decide, by decide, by decide +kernel⟩
theorem lvX6_148 : aLkV RX6 148 7 yX6_scaleTo cX6_scaleTo 4 2 (some .int) := ⟨RX6, TX6, 6, rfl, aT_mem 684 (by decide +kernel) rfl, aT_mem 686 (by decide +kernel) rfl, aT_mem 19 (by decide +kernel) rfl, aT_mem 76 (by decide +kernel) rfl, aT_mem 687 (by decide +kernel) rfl, rfl, by decide, by decide, by decide +kernel⟩
theorem lvX6_152 : aLkV RX6 152 4 yX3_bitLength cX3_bitLength 1 0 (some .int) := ⟨RX3, TX3, 2, rfl, aT_mem 689 (by decide +kernel) rfl, aT_mem 690 (by decide +kernel) rfl, aT_mem 691 (by decide +kernel) rfl, aT_mem 74 (by decide +kernel) rfl, aT_mem 692 (by decide +kernel) rfl, rfl, by decide, by decide, by decide +kernel⟩
theorem lvX6_159 : aLkV RX6 159 7 yX6_roundOff cX6_roundOff 11 1 (some .long) := ⟨RX6, TX6, 6, rfl, aT_mem 697 (by decide +kernel) rfl, aT_mem 699 (by decide +kernel) rfl, aT_mem 20 (by decide +kernel) rfl, aT_mem 76 (by decide +kernel) rfl, aT_mem 700 (by decide +kernel) rfl, rfl, by decide, by decide, by decide +kernel⟩
theorem lvX6_176 : aLkV RX6 176 4 yX3_lowBits cX3_lowBits 1 0 (some .long) := ⟨RX3, TX3, 2, rfl, aT_mem 701 (by decide +kernel) rfl, aT_mem 585 (by decide +kernel) rfl, aT_mem 586 (by decide +kernel) rfl, aT_mem 74 (by decide +kernel) rfl, aT_mem 587 (by decide +kernel) rfl, rfl, by decide, by decide, by decide +kernel⟩
theorem lvX7_15 : aLkV RX7 15 8 yX7_writePacked cX7_writePacked 6 3 none := ⟨RX7, TX7, 0, rfl, aT_mem 737 (by decide +kernel) rfl, aT_mem 739 (by decide +kernel) rfl, aT_mem 24 (by decide +kernel) rfl, aT_mem 77 (by decide +kernel) rfl, aT_mem 740 (by decide +kernel) rfl, rfl, by decide, by decide, by decide +kernel⟩
theorem lvX7_21 : aLkV RX7 21 8 yX7_writeBinary cX7_writeBinary 7 3 none := ⟨RX7, TX7, 0, rfl, aT_mem 756 (by decide +kernel) rfl, aT_mem 758 (by decide +kernel) rfl, aT_mem 25 (by decide +kernel) rfl, aT_mem 77 (by decide +kernel) rfl, aT_mem 759 (by decide +kernel) rfl, rfl, by decide, by decide, by decide +kernel⟩
theorem lvX7_24 : aLkV RX7 24 8 yX7_writeNational cX7_writeNational 5 3 none := ⟨RX7, TX7, 0, rfl, aT_mem 764 (by decide +kernel) rfl, aT_mem 766 (by decide +kernel) rfl, aT_mem 26 (by decide +kernel) rfl, aT_mem 77 (by decide +kernel) rfl, aT_mem 767 (by decide +kernel) rfl, rfl, by decide, by decide, by decide +kernel⟩
theorem lvX7_27 : aLkV RX7 27 8 yX7_writeZoned cX7_writeZoned 8 3 none := ⟨RX7, TX7, 0, rfl, aT_mem 768 (by decide +kernel) rfl, aT_mem 770 (by decide +kernel) rfl, aT_mem 27 (by decide +kernel) rfl, aT_mem 77 (by decide +kernel) rfl, aT_mem 771 (by decide +kernel) rfl, rfl, by decide, by decide, by decide +kernel⟩
theorem lvX7_30 : aLkV RX7 30 5 yX4_firstZonedByte cX4_firstZonedByte 1 0 (some .int) := ⟨RX4, TX4, 5, rfl, aT_mem 772 (by decide +kernel) rfl, aT_mem 529 (by decide +kernel) rfl, aT_mem 530 (by decide +kernel) rfl, aT_mem 84 (by decide +kernel) rfl, aT_mem 531 (by decide +kernel) rfl, rfl, by decide, by decide, by decide +kernel⟩
theorem lvX7_34 : aLkV RX7 34 5 yX4_signedDigit cX4_signedDigit 1 0 (some .int) := ⟨RX4, TX4, 5, rfl, aT_mem 773 (by decide +kernel) rfl, aT_mem 533 (by decide +kernel) rfl, aT_mem 534 (by decide +kernel) rfl, aT_mem 84 (by decide +kernel) rfl, aT_mem 535 (by decide +kernel) rfl, rfl, by decide, by decide, by decide +kernel⟩
theorem lvX7_44 : aLkV RX7 44 4 yX3_takeDigit cX3_takeDigit 4 0 (some .int) := ⟨RX3, TX3, 2, rfl, aT_mem 747 (by decide +kernel) rfl, aT_mem 748 (by decide +kernel) rfl, aT_mem 749 (by decide +kernel) rfl, aT_mem 74 (by decide +kernel) rfl, aT_mem 750 (by decide +kernel) rfl, rfl, by decide, by decide, by decide +kernel⟩
theorem lvX7_49 : aLkV RX7 49 5 yX4_put cX4_put 3 2 none := ⟨RX4, TX4, 5, rfl, aT_mem 710 (by decide +kernel) rfl, aT_mem 389 (by decide +kernel) rfl, aT_mem 390 (by decide +kernel) rfl, aT_mem 84 (by decide +kernel) rfl, aT_mem 391 (by decide +kernel) rfl, rfl, by decide, by decide, by decide +kernel⟩
theorem lvX7_53 : aLkV RX7 53 5 yX4_signByte cX4_signByte 1 0 (some .int) := ⟨RX4, TX4, 5, rfl, aT_mem 774 (by decide +kernel) rfl, aT_mem 537 (by decide +kernel) rfl, aT_mem 538 (by decide +kernel) rfl, aT_mem 84 (by decide +kernel) rfl, aT_mem 539 (by decide +kernel) rfl, rfl, by decide, by decide, by decide +kernel⟩
theorem lvX7_56 : aLkV RX7 56 5 yX4_packedLead cX4_packedLead 1 0 (some .int) := ⟨RX4, TX4, 5, rfl, aT_mem 741 (by decide +kernel) rfl, aT_mem 444 (by decide +kernel) rfl, aT_mem 445 (by decide +kernel) rfl, aT_mem 84 (by decide +kernel) rfl, aT_mem 446 (by decide +kernel) rfl, rfl, by decide, by decide, by decide +kernel⟩
theorem lvX7_59 : aLkV RX7 59 5 yX4_putNibble cX4_putNibble 4 2 none := ⟨RX4, TX4, 5, rfl, aT_mem 742 (by decide +kernel) rfl, aT_mem 743 (by decide +kernel) rfl, aT_mem 744 (by decide +kernel) rfl, aT_mem 84 (by decide +kernel) rfl, aT_mem 745 (by decide +kernel) rfl, rfl, by decide, by decide, by decide +kernel⟩
theorem lvX7_62 : aLkV RX7 62 5 yX4_signless cX4_signless 1 0 (some .boolean) := ⟨RX4, TX4, 5, rfl, aT_mem 752 (by decide +kernel) rfl, aT_mem 460 (by decide +kernel) rfl, aT_mem 461 (by decide +kernel) rfl, aT_mem 84 (by decide +kernel) rfl, aT_mem 462 (by decide +kernel) rfl, rfl, by decide, by decide, by decide +kernel⟩
theorem lvX7_70 : aLkV RX7 70 4 yX3_takeOctet cX3_takeOctet 2 0 (some .int) := ⟨RX3, TX3, 2, rfl, aT_mem 760 (by decide +kernel) rfl, aT_mem 761 (by decide +kernel) rfl, aT_mem 762 (by decide +kernel) rfl, aT_mem 74 (by decide +kernel) rfl, aT_mem 763 (by decide +kernel) rfl, rfl, by decide, by decide, by decide +kernel⟩
theorem lvX7_75 : aLkV RX7 75 5 yX4_get cX4_get 2 1 (some .int) := ⟨RX4, TX4, 5, rfl, aT_mem 711 (by decide +kernel) rfl, aT_mem 400 (by decide +kernel) rfl, aT_mem 401 (by decide +kernel) rfl, aT_mem 84 (by decide +kernel) rfl, aT_mem 402 (by decide +kernel) rfl, rfl, by decide, by decide, by decide +kernel⟩
theorem lvL_7 : aLkV RL 7 9 yX8_number cX8_number 4 3 (some .int) := ⟨RX8, TX8, 8, rfl, aT_mem 237 (by decide +kernel) rfl, aT_mem 238 (by decide +kernel) rfl, aT_mem 239 (by decide +kernel) rfl, aT_mem 72 (by decide +kernel) rfl, aT_mem 240 (by decide +kernel) rfl, rfl, by decide, by decide, by decide +kernel⟩
theorem lvL_15 : aLkV RL 15 9 yX8_octet cX8_octet 4 3 none := ⟨RX8, TX8, 8, rfl, aT_mem 354 (by decide +kernel) rfl, aT_mem 355 (by decide +kernel) rfl, aT_mem 356 (by decide +kernel) rfl, aT_mem 72 (by decide +kernel) rfl, aT_mem 357 (by decide +kernel) rfl, rfl, by decide, by decide, by decide +kernel⟩
theorem lvL_21 : aLkV RL 21 9 yX8_at cX8_at 3 2 (some .byte) := ⟨RX8, TX8, 8, rfl, aT_mem 395 (by decide +kernel) rfl, aT_mem 396 (by decide +kernel) rfl, aT_mem 397 (by decide +kernel) rfl, aT_mem 72 (by decide +kernel) rfl, aT_mem 398 (by decide +kernel) rfl, rfl, by decide, by decide, by decide +kernel⟩
theorem lvL_25 : aLkV RL 25 9 yX8_size cX8_size 2 1 (some .int) := ⟨RX8, TX8, 8, rfl, aT_mem 406 (by decide +kernel) rfl, aT_mem 407 (by decide +kernel) rfl, aT_mem 408 (by decide +kernel) rfl, aT_mem 72 (by decide +kernel) rfl, aT_mem 409 (by decide +kernel) rfl, rfl, by decide, by decide, by decide +kernel⟩
theorem lvL_29 : aLkV RL 29 9 yX8_apply cX8_apply 8 4 (some .int) := ⟨RX8, TX8, 8, rfl, aT_mem 414 (by decide +kernel) rfl, aT_mem 415 (by decide +kernel) rfl, aT_mem 416 (by decide +kernel) rfl, aT_mem 72 (by decide +kernel) rfl, aT_mem 417 (by decide +kernel) rfl, rfl, by decide, by decide, by decide +kernel⟩
theorem lvL_35 : aLkV RL 35 9 yX8_compare cX8_compare 5 2 (some .int) := ⟨RX8, TX8, 8, rfl, aT_mem 778 (by decide +kernel) rfl, aT_mem 779 (by decide +kernel) rfl, aT_mem 780 (by decide +kernel) rfl, aT_mem 72 (by decide +kernel) rfl, aT_mem 781 (by decide +kernel) rfl, rfl, by decide, by decide, by decide +kernel⟩
theorem lvL_39 : aLkV RL 39 9 yX8_valid cX8_valid 2 1 (some .boolean) := ⟨RX8, TX8, 8, rfl, aT_mem 789 (by decide +kernel) rfl, aT_mem 790 (by decide +kernel) rfl, aT_mem 791 (by decide +kernel) rfl, aT_mem 72 (by decide +kernel) rfl, aT_mem 792 (by decide +kernel) rfl, rfl, by decide, by decide, by decide +kernel⟩
theorem lvL_43 : aLkV RL 43 9 yX8_convert cX8_convert 5 2 (some .int) := ⟨RX8, TX8, 8, rfl, aT_mem 796 (by decide +kernel) rfl, aT_mem 797 (by decide +kernel) rfl, aT_mem 798 (by decide +kernel) rfl, aT_mem 72 (by decide +kernel) rfl, aT_mem 799 (by decide +kernel) rfl, rfl, by decide, by decide, by decide +kernel⟩
theorem lvL_46 : aLkV RL 46 9 yX8_digit cX8_digit 5 2 (some .int) := ⟨RX8, TX8, 8, rfl, aT_mem 815 (by decide +kernel) rfl, aT_mem 816 (by decide +kernel) rfl, aT_mem 817 (by decide +kernel) rfl, aT_mem 72 (by decide +kernel) rfl, aT_mem 818 (by decide +kernel) rfl, rfl, by decide, by decide, by decide +kernel⟩
theorem lvL_49 : aLkV RL 49 9 yX8_round cX8_round 5 2 (some .int) := ⟨RX8, TX8, 8, rfl, aT_mem 824 (by decide +kernel) rfl, aT_mem 825 (by decide +kernel) rfl, aT_mem 826 (by decide +kernel) rfl, aT_mem 72 (by decide +kernel) rfl, aT_mem 827 (by decide +kernel) rfl, rfl, by decide, by decide, by decide +kernel⟩
theorem lvL_52 : aLkV RL 52 9 yX8_half cX8_half 2 1 (some .short) := ⟨RX8, TX8, 8, rfl, aT_mem 831 (by decide +kernel) rfl, aT_mem 832 (by decide +kernel) rfl, aT_mem 833 (by decide +kernel) rfl, aT_mem 72 (by decide +kernel) rfl, aT_mem 834 (by decide +kernel) rfl, rfl, by decide, by decide, by decide +kernel⟩
theorem lvL_65 : aLkV RL 65 10 yX9_number cX9_number 4 3 (some .int) := ⟨RX9, TX9, 14, rfl, aT_mem 888 (by decide +kernel) rfl, aT_mem 889 (by decide +kernel) rfl, aT_mem 890 (by decide +kernel) rfl, aT_mem 79 (by decide +kernel) rfl, aT_mem 891 (by decide +kernel) rfl, rfl, by decide, by decide, by decide +kernel⟩
theorem lvL_66 : aLkV RL 66 10 yX9_thrown cX9_thrown 1 0 (some .int) := ⟨RX9, TX9, 14, rfl, aT_mem 884 (by decide +kernel) rfl, aT_mem 885 (by decide +kernel) rfl, aT_mem 886 (by decide +kernel) rfl, aT_mem 79 (by decide +kernel) rfl, aT_mem 887 (by decide +kernel) rfl, rfl, by decide, by decide, by decide +kernel⟩
theorem lvL_73 : aLkV RL 73 10 yX9_octet cX9_octet 4 3 none := ⟨RX9, TX9, 14, rfl, aT_mem 899 (by decide +kernel) rfl, aT_mem 900 (by decide +kernel) rfl, aT_mem 901 (by decide +kernel) rfl, aT_mem 79 (by decide +kernel) rfl, aT_mem 902 (by decide +kernel) rfl, rfl, by decide, by decide, by decide +kernel⟩
theorem lvL_77 : aLkV RL 77 10 yX9_at cX9_at 3 2 (some .byte) := ⟨RX9, TX9, 14, rfl, aT_mem 911 (by decide +kernel) rfl, aT_mem 912 (by decide +kernel) rfl, aT_mem 913 (by decide +kernel) rfl, aT_mem 79 (by decide +kernel) rfl, aT_mem 914 (by decide +kernel) rfl, rfl, by decide, by decide, by decide +kernel⟩
theorem lvL_81 : aLkV RL 81 10 yX9_size cX9_size 2 1 (some .int) := ⟨RX9, TX9, 14, rfl, aT_mem 915 (by decide +kernel) rfl, aT_mem 916 (by decide +kernel) rfl, aT_mem 917 (by decide +kernel) rfl, aT_mem 79 (by decide +kernel) rfl, aT_mem 918 (by decide +kernel) rfl, rfl, by decide, by decide, by decide +kernel⟩
theorem lvL_85 : aLkV RL 85 10 yX9_apply cX9_apply 7 4 (some .int) := ⟨RX9, TX9, 14, rfl, aT_mem 996 (by decide +kernel) rfl, aT_mem 997 (by decide +kernel) rfl, aT_mem 998 (by decide +kernel) rfl, aT_mem 79 (by decide +kernel) rfl, aT_mem 999 (by decide +kernel) rfl, rfl, by decide, by decide, by decide +kernel⟩
theorem lvL_88 : aLkV RL 88 10 yX9_compare cX9_compare 4 2 (some .int) := ⟨RX9, TX9, 14, rfl, aT_mem 1085 (by decide +kernel) rfl, aT_mem 1086 (by decide +kernel) rfl, aT_mem 1087 (by decide +kernel) rfl, aT_mem 79 (by decide +kernel) rfl, aT_mem 1088 (by decide +kernel) rfl, rfl, by decide, by decide, by decide +kernel⟩
theorem lvL_91 : aLkV RL 91 10 yX9_valid cX9_valid 2 1 (some .boolean) := ⟨RX9, TX9, 14, rfl, aT_mem 919 (by decide +kernel) rfl, aT_mem 920 (by decide +kernel) rfl, aT_mem 921 (by decide +kernel) rfl, aT_mem 79 (by decide +kernel) rfl, aT_mem 922 (by decide +kernel) rfl, rfl, by decide, by decide, by decide +kernel⟩
theorem lvL_94 : aLkV RL 94 10 yX9_convert cX9_convert 6 2 (some .int) := ⟨RX9, TX9, 14, rfl, aT_mem 1089 (by decide +kernel) rfl, aT_mem 1090 (by decide +kernel) rfl, aT_mem 1091 (by decide +kernel) rfl, aT_mem 79 (by decide +kernel) rfl, aT_mem 1092 (by decide +kernel) rfl, rfl, by decide, by decide, by decide +kernel⟩
theorem lvL_97 : aLkV RL 97 10 yX9_digit cX9_digit 6 2 (some .int) := ⟨RX9, TX9, 14, rfl, aT_mem 1093 (by decide +kernel) rfl, aT_mem 1094 (by decide +kernel) rfl, aT_mem 1095 (by decide +kernel) rfl, aT_mem 79 (by decide +kernel) rfl, aT_mem 1096 (by decide +kernel) rfl, rfl, by decide, by decide, by decide +kernel⟩
theorem lvL_100 : aLkV RL 100 10 yX9_round cX9_round 4 2 (some .int) := ⟨RX9, TX9, 14, rfl, aT_mem 1097 (by decide +kernel) rfl, aT_mem 1098 (by decide +kernel) rfl, aT_mem 1099 (by decide +kernel) rfl, aT_mem 79 (by decide +kernel) rfl, aT_mem 1100 (by decide +kernel) rfl, rfl, by decide, by decide, by decide +kernel⟩
theorem lvL_103 : aLkV RL 103 10 yX9_half cX9_half 2 1 (some .short) := ⟨RX9, TX9, 14, rfl, aT_mem 1101 (by decide +kernel) rfl, aT_mem 1102 (by decide +kernel) rfl, aT_mem 1103 (by decide +kernel) rfl, aT_mem 79 (by decide +kernel) rfl, aT_mem 1104 (by decide +kernel) rfl, rfl, by decide, by decide, by decide +kernel⟩
theorem lvX9_36 : aLkV RX9 36 10 yX9_clear cX9_clear 3 1 none := ⟨RX9, TX9, 14, rfl, aT_mem 931 (by decide +kernel) rfl, aT_mem 933 (by decide +kernel) rfl, aT_mem 35 (by decide +kernel) rfl, aT_mem 79 (by decide +kernel) rfl, aT_mem 934 (by decide +kernel) rfl, rfl, by decide, by decide, by decide +kernel⟩
theorem lvX9_43 : aLkV RX9 43 10 yX9_times cX9_times 8 2 none := ⟨RX9, TX9, 14, rfl, aT_mem 950 (by decide +kernel) rfl, aT_mem 952 (by decide +kernel) rfl, aT_mem 39 (by decide +kernel) rfl, aT_mem 79 (by decide +kernel) rfl, aT_mem 953 (by decide +kernel) rfl, rfl, by decide, by decide, by decide +kernel⟩
theorem lvX9_47 : aLkV RX9 47 10 yX9_copy cX9_copy 4 2 none := ⟨RX9, TX9, 14, rfl, aT_mem 992 (by decide +kernel) rfl, aT_mem 994 (by decide +kernel) rfl, aT_mem 49 (by decide +kernel) rfl, aT_mem 79 (by decide +kernel) rfl, aT_mem 995 (by decide +kernel) rfl, rfl, by decide, by decide, by decide +kernel⟩
theorem lvX9_50 : aLkV RX9 50 10 yX9_bit cX9_bit 3 2 (some .int) := ⟨RX9, TX9, 14, rfl, aT_mem 1020 (by decide +kernel) rfl, aT_mem 1022 (by decide +kernel) rfl, aT_mem 55 (by decide +kernel) rfl, aT_mem 79 (by decide +kernel) rfl, aT_mem 1023 (by decide +kernel) rfl, rfl, by decide, by decide, by decide +kernel⟩
theorem lvX9_54 : aLkV RX9 54 10 yX9_length cX9_length 3 1 (some .int) := ⟨RX9, TX9, 14, rfl, aT_mem 1016 (by decide +kernel) rfl, aT_mem 1018 (by decide +kernel) rfl, aT_mem 54 (by decide +kernel) rfl, aT_mem 79 (by decide +kernel) rfl, aT_mem 1019 (by decide +kernel) rfl, rfl, by decide, by decide, by decide +kernel⟩
theorem lvX9_58 : aLkV RX9 58 10 yX9_order cX9_order 6 2 (some .int) := ⟨RX9, TX9, 14, rfl, aT_mem 972 (by decide +kernel) rfl, aT_mem 974 (by decide +kernel) rfl, aT_mem 44 (by decide +kernel) rfl, aT_mem 79 (by decide +kernel) rfl, aT_mem 975 (by decide +kernel) rfl, rfl, by decide, by decide, by decide +kernel⟩
theorem lvX9_61 : aLkV RX9 61 10 yX9_less cX9_less 6 2 none := ⟨RX9, TX9, 14, rfl, aT_mem 1024 (by decide +kernel) rfl, aT_mem 1026 (by decide +kernel) rfl, aT_mem 56 (by decide +kernel) rfl, aT_mem 79 (by decide +kernel) rfl, aT_mem 1027 (by decide +kernel) rfl, rfl, by decide, by decide, by decide +kernel⟩
theorem lvX9_67 : aLkV RX9 67 10 yX9_fails cX9_fails 3 2 (some .boolean) := ⟨RX9, TX9, 14, rfl, aT_mem 892 (by decide +kernel) rfl, aT_mem 894 (by decide +kernel) rfl, aT_mem 30 (by decide +kernel) rfl, aT_mem 79 (by decide +kernel) rfl, aT_mem 895 (by decide +kernel) rfl, rfl, by decide, by decide, by decide +kernel⟩
theorem lvX9_74 : aLkV RX9 74 10 yX9_isNumber cX9_isNumber 2 1 (some .boolean) := ⟨RX9, TX9, 14, rfl, aT_mem 907 (by decide +kernel) rfl, aT_mem 909 (by decide +kernel) rfl, aT_mem 32 (by decide +kernel) rfl, aT_mem 79 (by decide +kernel) rfl, aT_mem 910 (by decide +kernel) rfl, rfl, by decide, by decide, by decide +kernel⟩
theorem lvX9_78 : aLkV RX9 78 10 yX9_isByte cX9_isByte 3 2 (some .boolean) := ⟨RX9, TX9, 14, rfl, aT_mem 903 (by decide +kernel) rfl, aT_mem 905 (by decide +kernel) rfl, aT_mem 31 (by decide +kernel) rfl, aT_mem 79 (by decide +kernel) rfl, aT_mem 906 (by decide +kernel) rfl, rfl, by decide, by decide, by decide +kernel⟩
theorem lvX9_82 : aLkV RX9 82 10 yX9_plus cX9_plus 6 2 none := ⟨RX9, TX9, 14, rfl, aT_mem 955 (by decide +kernel) rfl, aT_mem 957 (by decide +kernel) rfl, aT_mem 40 (by decide +kernel) rfl, aT_mem 79 (by decide +kernel) rfl, aT_mem 958 (by decide +kernel) rfl, rfl, by decide, by decide, by decide +kernel⟩
theorem lvX9_85 : aLkV RX9 85 10 yX9_small cX9_small 3 2 none := ⟨RX9, TX9, 14, rfl, aT_mem 927 (by decide +kernel) rfl, aT_mem 929 (by decide +kernel) rfl, aT_mem 34 (by decide +kernel) rfl, aT_mem 79 (by decide +kernel) rfl, aT_mem 930 (by decide +kernel) rfl, rfl, by decide, by decide, by decide +kernel⟩
theorem lvX9_91 : aLkV RX9 91 10 yX9_loadZoned cX9_loadZoned 9 2 (some .boolean) := ⟨RX9, TX9, 14, rfl, aT_mem 935 (by decide +kernel) rfl, aT_mem 937 (by decide +kernel) rfl, aT_mem 36 (by decide +kernel) rfl, aT_mem 79 (by decide +kernel) rfl, aT_mem 938 (by decide +kernel) rfl, rfl, by decide, by decide, by decide +kernel⟩
theorem lvX9_94 : aLkV RX9 94 10 yX9_loadPacked cX9_loadPacked 6 1 (some .boolean) := ⟨RX9, TX9, 14, rfl, aT_mem 960 (by decide +kernel) rfl, aT_mem 962 (by decide +kernel) rfl, aT_mem 41 (by decide +kernel) rfl, aT_mem 79 (by decide +kernel) rfl, aT_mem 963 (by decide +kernel) rfl, rfl, by decide, by decide, by decide +kernel⟩
theorem lvX9_97 : aLkV RX9 97 10 yX9_loadBinary cX9_loadBinary 4 1 (some .boolean) := ⟨RX9, TX9, 14, rfl, aT_mem 964 (by decide +kernel) rfl, aT_mem 966 (by decide +kernel) rfl, aT_mem 42 (by decide +kernel) rfl, aT_mem 79 (by decide +kernel) rfl, aT_mem 967 (by decide +kernel) rfl, rfl, by decide, by decide, by decide +kernel⟩
theorem lvX9_100 : aLkV RX9 100 10 yX9_loadFloat cX9_loadFloat 7 1 (some .boolean) := ⟨RX9, TX9, 14, rfl, aT_mem 976 (by decide +kernel) rfl, aT_mem 978 (by decide +kernel) rfl, aT_mem 45 (by decide +kernel) rfl, aT_mem 79 (by decide +kernel) rfl, aT_mem 979 (by decide +kernel) rfl, rfl, by decide, by decide, by decide +kernel⟩
theorem lvX9_103 : aLkV RX9 103 10 yX9_tens cX9_tens 4 2 none := ⟨RX9, TX9, 14, rfl, aT_mem 968 (by decide +kernel) rfl, aT_mem 970 (by decide +kernel) rfl, aT_mem 43 (by decide +kernel) rfl, aT_mem 79 (by decide +kernel) rfl, aT_mem 971 (by decide +kernel) rfl, rfl, by decide, by decide, by decide +kernel⟩
theorem lvX9_106 : aLkV RX9 106 10 yX9_isZero cX9_isZero 4 1 (some .boolean) := ⟨RX9, TX9, 14, rfl, aT_mem 980 (by decide +kernel) rfl, aT_mem 982 (by decide +kernel) rfl, aT_mem 46 (by decide +kernel) rfl, aT_mem 79 (by decide +kernel) rfl, aT_mem 983 (by decide +kernel) rfl, rfl, by decide, by decide, by decide +kernel⟩
theorem lvX9_109 : aLkV RX9 109 10 yX9_read cX9_read 3 2 (some .int) := ⟨RX9, TX9, 14, rfl, aT_mem 939 (by decide +kernel) rfl, aT_mem 941 (by decide +kernel) rfl, aT_mem 37 (by decide +kernel) rfl, aT_mem 79 (by decide +kernel) rfl, aT_mem 942 (by decide +kernel) rfl, rfl, by decide, by decide, by decide +kernel⟩
theorem lvX9_115 : aLkV RX9 115 10 yX9_gains cX9_gains 2 1 (some .boolean) := ⟨RX9, TX9, 14, rfl, aT_mem 946 (by decide +kernel) rfl, aT_mem 948 (by decide +kernel) rfl, aT_mem 38 (by decide +kernel) rfl, aT_mem 79 (by decide +kernel) rfl, aT_mem 949 (by decide +kernel) rfl, rfl, by decide, by decide, by decide +kernel⟩
theorem lvX9_118 : aLkV RX9 118 10 yX9_twice cX9_twice 4 2 none := ⟨RX9, TX9, 14, rfl, aT_mem 984 (by decide +kernel) rfl, aT_mem 986 (by decide +kernel) rfl, aT_mem 47 (by decide +kernel) rfl, aT_mem 79 (by decide +kernel) rfl, aT_mem 987 (by decide +kernel) rfl, rfl, by decide, by decide, by decide +kernel⟩
theorem lvX9_121 : aLkV RX9 121 10 yX9_isMiddle cX9_isMiddle 3 2 (some .boolean) := ⟨RX9, TX9, 14, rfl, aT_mem 988 (by decide +kernel) rfl, aT_mem 990 (by decide +kernel) rfl, aT_mem 48 (by decide +kernel) rfl, aT_mem 79 (by decide +kernel) rfl, aT_mem 991 (by decide +kernel) rfl, rfl, by decide, by decide, by decide +kernel⟩
theorem lvX9_124 : aLkV RX9 124 10 yX9_load cX9_load 4 1 (some .boolean) := ⟨RX9, TX9, 14, rfl, aT_mem 923 (by decide +kernel) rfl, aT_mem 925 (by decide +kernel) rfl, aT_mem 33 (by decide +kernel) rfl, aT_mem 79 (by decide +kernel) rfl, aT_mem 926 (by decide +kernel) rfl, rfl, by decide, by decide, by decide +kernel⟩
theorem lvX9_130 : aLkV RX9 130 10 yX9_storeFloat cX9_storeFloat 9 2 (some .int) := ⟨RX9, TX9, 14, rfl, aT_mem 1041 (by decide +kernel) rfl, aT_mem 1043 (by decide +kernel) rfl, aT_mem 60 (by decide +kernel) rfl, aT_mem 79 (by decide +kernel) rfl, aT_mem 1044 (by decide +kernel) rfl, rfl, by decide, by decide, by decide +kernel⟩
theorem lvX9_134 : aLkV RX9 134 10 yX9_divide cX9_divide 4 2 none := ⟨RX9, TX9, 14, rfl, aT_mem 1012 (by decide +kernel) rfl, aT_mem 1014 (by decide +kernel) rfl, aT_mem 53 (by decide +kernel) rfl, aT_mem 79 (by decide +kernel) rfl, aT_mem 1015 (by decide +kernel) rfl, rfl, by decide, by decide, by decide +kernel⟩
theorem lvX9_137 : aLkV RX9 137 10 yX9_rises cX9_rises 5 2 (some .boolean) := ⟨RX9, TX9, 14, rfl, aT_mem 1049 (by decide +kernel) rfl, aT_mem 1051 (by decide +kernel) rfl, aT_mem 62 (by decide +kernel) rfl, aT_mem 79 (by decide +kernel) rfl, aT_mem 1052 (by decide +kernel) rfl, rfl, by decide, by decide, by decide +kernel⟩
theorem lvX9_140 : aLkV RX9 140 10 yX9_fits cX9_fits 3 2 (some .boolean) := ⟨RX9, TX9, 14, rfl, aT_mem 1057 (by decide +kernel) rfl, aT_mem 1059 (by decide +kernel) rfl, aT_mem 64 (by decide +kernel) rfl, aT_mem 79 (by decide +kernel) rfl, aT_mem 1060 (by decide +kernel) rfl, rfl, by decide, by decide, by decide +kernel⟩
theorem lvX9_143 : aLkV RX9 143 10 yX9_write cX9_write 8 2 none := ⟨RX9, TX9, 14, rfl, aT_mem 1061 (by decide +kernel) rfl, aT_mem 1063 (by decide +kernel) rfl, aT_mem 65 (by decide +kernel) rfl, aT_mem 79 (by decide +kernel) rfl, aT_mem 1064 (by decide +kernel) rfl, rfl, by decide, by decide, by decide +kernel⟩
theorem lvX9_146 : aLkV RX9 146 10 yX9_writeBinary cX9_writeBinary 8 2 none := ⟨RX9, TX9, 14, rfl, aT_mem 1065 (by decide +kernel) rfl, aT_mem 1067 (by decide +kernel) rfl, aT_mem 66 (by decide +kernel) rfl, aT_mem 79 (by decide +kernel) rfl, aT_mem 1068 (by decide +kernel) rfl, rfl, by decide, by decide, by decide +kernel⟩
theorem lvX9_149 : aLkV RX9 149 10 yX9_put cX9_put 4 3 none := ⟨RX9, TX9, 14, rfl, aT_mem 1053 (by decide +kernel) rfl, aT_mem 1055 (by decide +kernel) rfl, aT_mem 63 (by decide +kernel) rfl, aT_mem 79 (by decide +kernel) rfl, aT_mem 1056 (by decide +kernel) rfl, rfl, by decide, by decide, by decide +kernel⟩
theorem lvX9_153 : aLkV RX9 153 10 yX9_nearest cX9_nearest 3 1 none := ⟨RX9, TX9, 14, rfl, aT_mem 1045 (by decide +kernel) rfl, aT_mem 1047 (by decide +kernel) rfl, aT_mem 61 (by decide +kernel) rfl, aT_mem 79 (by decide +kernel) rfl, aT_mem 1048 (by decide +kernel) rfl, rfl, by decide, by decide, by decide +kernel⟩
theorem lvX9_166 : aLkV RX9 166 10 yX9_second cX9_second 1 0 none := ⟨RX9, TX9, 14, rfl, aT_mem 1000 (by decide +kernel) rfl, aT_mem 1002 (by decide +kernel) rfl, aT_mem 50 (by decide +kernel) rfl, aT_mem 79 (by decide +kernel) rfl, aT_mem 1003 (by decide +kernel) rfl, rfl, by decide, by decide, by decide +kernel⟩
theorem lvX9_169 : aLkV RX9 169 10 yX9_wholes cX9_wholes 9 4 (some .int) := ⟨RX9, TX9, 14, rfl, aT_mem 1004 (by decide +kernel) rfl, aT_mem 1006 (by decide +kernel) rfl, aT_mem 51 (by decide +kernel) rfl, aT_mem 79 (by decide +kernel) rfl, aT_mem 1007 (by decide +kernel) rfl, rfl, by decide, by decide, by decide +kernel⟩
theorem lvX9_173 : aLkV RX9 173 10 yX9_stored cX9_stored 2 1 (some .int) := ⟨RX9, TX9, 14, rfl, aT_mem 1033 (by decide +kernel) rfl, aT_mem 1035 (by decide +kernel) rfl, aT_mem 58 (by decide +kernel) rfl, aT_mem 79 (by decide +kernel) rfl, aT_mem 1036 (by decide +kernel) rfl, rfl, by decide, by decide, by decide +kernel⟩
theorem lvX9_176 : aLkV RX9 176 10 yX9_sum cX9_sum 4 1 none := ⟨RX9, TX9, 14, rfl, aT_mem 1069 (by decide +kernel) rfl, aT_mem 1071 (by decide +kernel) rfl, aT_mem 67 (by decide +kernel) rfl, aT_mem 79 (by decide +kernel) rfl, aT_mem 1072 (by decide +kernel) rfl, rfl, by decide, by decide, by decide +kernel⟩
theorem lvX9_179 : aLkV RX9 179 10 yX9_exactly cX9_exactly 2 1 none := ⟨RX9, TX9, 14, rfl, aT_mem 1081 (by decide +kernel) rfl, aT_mem 1083 (by decide +kernel) rfl, aT_mem 70 (by decide +kernel) rfl, aT_mem 79 (by decide +kernel) rfl, aT_mem 1084 (by decide +kernel) rfl, rfl, by decide, by decide, by decide +kernel⟩
theorem lvX9_182 : aLkV RX9 182 10 yX9_store cX9_store 5 1 (some .int) := ⟨RX9, TX9, 14, rfl, aT_mem 1037 (by decide +kernel) rfl, aT_mem 1039 (by decide +kernel) rfl, aT_mem 59 (by decide +kernel) rfl, aT_mem 79 (by decide +kernel) rfl, aT_mem 1040 (by decide +kernel) rfl, rfl, by decide, by decide, by decide +kernel⟩
theorem lvX9_185 : aLkV RX9 185 10 yX9_whole cX9_whole 4 0 (some .long) := ⟨RX9, TX9, 14, rfl, aT_mem 1008 (by decide +kernel) rfl, aT_mem 1010 (by decide +kernel) rfl, aT_mem 52 (by decide +kernel) rfl, aT_mem 79 (by decide +kernel) rfl, aT_mem 1011 (by decide +kernel) rfl, rfl, by decide, by decide, by decide +kernel⟩
theorem lvX9_191 : aLkV RX9 191 10 yX9_fromLong cX9_fromLong 6 1 none := ⟨RX9, TX9, 14, rfl, aT_mem 1029 (by decide +kernel) rfl, aT_mem 1031 (by decide +kernel) rfl, aT_mem 57 (by decide +kernel) rfl, aT_mem 79 (by decide +kernel) rfl, aT_mem 1032 (by decide +kernel) rfl, rfl, by decide, by decide, by decide +kernel⟩
theorem lvX9_195 : aLkV RX9 195 10 yX9_product cX9_product 10 3 none := ⟨RX9, TX9, 14, rfl, aT_mem 1073 (by decide +kernel) rfl, aT_mem 1075 (by decide +kernel) rfl, aT_mem 68 (by decide +kernel) rfl, aT_mem 79 (by decide +kernel) rfl, aT_mem 1076 (by decide +kernel) rfl, rfl, by decide, by decide, by decide +kernel⟩
theorem lvX9_198 : aLkV RX9 198 10 yX9_add cX9_add 6 2 none := ⟨RX9, TX9, 14, rfl, aT_mem 1077 (by decide +kernel) rfl, aT_mem 1079 (by decide +kernel) rfl, aT_mem 69 (by decide +kernel) rfl, aT_mem 79 (by decide +kernel) rfl, aT_mem 1080 (by decide +kernel) rfl, rfl, by decide, by decide, by decide +kernel⟩
theorem lsX3_32 : aLkS RX3 32 yJ9_min_7cf53 cJ9_min_7cf53 2 2 (some .int) := ⟨aT_mem 484 (by decide +kernel) rfl, aT_mem 485 (by decide +kernel) rfl, aT_mem 85 (by decide +kernel) rfl, aT_mem 486 (by decide +kernel) rfl, by decide, by decide, by decide +kernel⟩
theorem lsX3_42 : aLkS RX3 42 yJ9_max_7cf53 cJ9_max_7cf53 2 2 (some .int) := ⟨aT_mem 624 (by decide +kernel) rfl, aT_mem 318 (by decide +kernel) rfl, aT_mem 85 (by decide +kernel) rfl, aT_mem 319 (by decide +kernel) rfl, by decide, by decide, by decide +kernel⟩
theorem lsX4_21 : aLkS RX4 21 yX4_byteCount cX4_byteCount 2 2 (some .int) := ⟨aT_mem 314 (by decide +kernel) rfl, aT_mem 315 (by decide +kernel) rfl, aT_mem 84 (by decide +kernel) rfl, aT_mem 316 (by decide +kernel) rfl, by decide, by decide, by decide +kernel⟩
theorem lsX4_25 : aLkS RX4 25 yJ9_max_7cf53 cJ9_max_7cf53 2 2 (some .int) := ⟨aT_mem 317 (by decide +kernel) rfl, aT_mem 318 (by decide +kernel) rfl, aT_mem 85 (by decide +kernel) rfl, aT_mem 319 (by decide +kernel) rfl, by decide, by decide, by decide +kernel⟩
theorem lsX5_92 : aLkS RX5 92 yX5_signOfNibble cX5_signOfNibble 1 1 (some .int) := ⟨aT_mem 463 (by decide +kernel) rfl, aT_mem 464 (by decide +kernel) rfl, aT_mem 73 (by decide +kernel) rfl, aT_mem 465 (by decide +kernel) rfl, by decide, by decide, by decide +kernel⟩
theorem lsX5_95 : aLkS RX5 95 yX5_takeSign cX5_takeSign 2 2 (some .boolean) := ⟨aT_mem 466 (by decide +kernel) rfl, aT_mem 467 (by decide +kernel) rfl, aT_mem 73 (by decide +kernel) rfl, aT_mem 468 (by decide +kernel) rfl, by decide, by decide, by decide +kernel⟩
theorem lsX5_99 : aLkS RX5 99 yX5_appendDigit cX5_appendDigit 2 2 (some .boolean) := ⟨aT_mem 452 (by decide +kernel) rfl, aT_mem 453 (by decide +kernel) rfl, aT_mem 73 (by decide +kernel) rfl, aT_mem 454 (by decide +kernel) rfl, by decide, by decide, by decide +kernel⟩
theorem lsX5_105 : aLkS RX5 105 yX5_signOfByte cX5_signOfByte 3 3 (some .int) := ⟨aT_mem 521 (by decide +kernel) rfl, aT_mem 522 (by decide +kernel) rfl, aT_mem 73 (by decide +kernel) rfl, aT_mem 523 (by decide +kernel) rfl, by decide, by decide, by decide +kernel⟩
theorem lsX5_126 : aLkS RX5 126 yX1_tooSmall cX1_tooSmall 3 2 (some .boolean) := ⟨aT_mem 496 (by decide +kernel) rfl, aT_mem 497 (by decide +kernel) rfl, aT_mem 88 (by decide +kernel) rfl, aT_mem 498 (by decide +kernel) rfl, by decide, by decide, by decide +kernel⟩
theorem lsX5_132 : aLkS RX5 132 yX1_tooGreat cX1_tooGreat 3 2 (some .boolean) := ⟨aT_mem 501 (by decide +kernel) rfl, aT_mem 502 (by decide +kernel) rfl, aT_mem 88 (by decide +kernel) rfl, aT_mem 503 (by decide +kernel) rfl, by decide, by decide, by decide +kernel⟩
theorem lsX5_135 : aLkS RX5 135 yX1_precision cX1_precision 1 1 (some .int) := ⟨aT_mem 506 (by decide +kernel) rfl, aT_mem 507 (by decide +kernel) rfl, aT_mem 88 (by decide +kernel) rfl, aT_mem 508 (by decide +kernel) rfl, by decide, by decide, by decide +kernel⟩
theorem lsX5_139 : aLkS RX5 139 yX1_bias cX1_bias 1 1 (some .int) := ⟨aT_mem 509 (by decide +kernel) rfl, aT_mem 510 (by decide +kernel) rfl, aT_mem 88 (by decide +kernel) rfl, aT_mem 511 (by decide +kernel) rfl, by decide, by decide, by decide +kernel⟩
theorem lsX5_142 : aLkS RX5 142 yJ9_max_7cf53 cJ9_max_7cf53 2 2 (some .int) := ⟨aT_mem 512 (by decide +kernel) rfl, aT_mem 318 (by decide +kernel) rfl, aT_mem 85 (by decide +kernel) rfl, aT_mem 319 (by decide +kernel) rfl, by decide, by decide, by decide +kernel⟩
theorem lsX6_142 : aLkS RX6 142 yX1_precision cX1_precision 1 1 (some .int) := ⟨aT_mem 683 (by decide +kernel) rfl, aT_mem 507 (by decide +kernel) rfl, aT_mem 88 (by decide +kernel) rfl, aT_mem 508 (by decide +kernel) rfl, by decide, by decide, by decide +kernel⟩
theorem lsX6_156 : aLkS RX6 156 yX1_bias cX1_bias 1 1 (some .int) := ⟨aT_mem 696 (by decide +kernel) rfl, aT_mem 510 (by decide +kernel) rfl, aT_mem 88 (by decide +kernel) rfl, aT_mem 511 (by decide +kernel) rfl, by decide, by decide, by decide +kernel⟩
theorem lsX6_163 : aLkS RX6 163 yX1_tooGreat cX1_tooGreat 3 2 (some .boolean) := ⟨aT_mem 702 (by decide +kernel) rfl, aT_mem 502 (by decide +kernel) rfl, aT_mem 88 (by decide +kernel) rfl, aT_mem 503 (by decide +kernel) rfl, by decide, by decide, by decide +kernel⟩
theorem lsX6_167 : aLkS RX6 167 yX1_tooSmall cX1_tooSmall 3 2 (some .boolean) := ⟨aT_mem 704 (by decide +kernel) rfl, aT_mem 497 (by decide +kernel) rfl, aT_mem 88 (by decide +kernel) rfl, aT_mem 498 (by decide +kernel) rfl, by decide, by decide, by decide +kernel⟩
theorem lsX6_170 : aLkS RX6 170 yJ9_max_7cf53 cJ9_max_7cf53 2 2 (some .int) := ⟨aT_mem 693 (by decide +kernel) rfl, aT_mem 318 (by decide +kernel) rfl, aT_mem 85 (by decide +kernel) rfl, aT_mem 319 (by decide +kernel) rfl, by decide, by decide, by decide +kernel⟩
theorem lsX7_40 : aLkS RX7 40 yX7_signNibble cX7_signNibble 1 1 (some .int) := ⟨aT_mem 753 (by decide +kernel) rfl, aT_mem 754 (by decide +kernel) rfl, aT_mem 77 (by decide +kernel) rfl, aT_mem 755 (by decide +kernel) rfl, by decide, by decide, by decide +kernel⟩
theorem lsX9_71 : aLkS RX9 71 yX9_sizeOf cX9_sizeOf 2 2 (some .int) := ⟨aT_mem 896 (by decide +kernel) rfl, aT_mem 897 (by decide +kernel) rfl, aT_mem 79 (by decide +kernel) rfl, aT_mem 898 (by decide +kernel) rfl, by decide, by decide, by decide +kernel⟩
theorem lsX9_112 : aLkS RX9 112 yX9_signOf cX9_signOf 1 1 (some .int) := ⟨aT_mem 943 (by decide +kernel) rfl, aT_mem 944 (by decide +kernel) rfl, aT_mem 79 (by decide +kernel) rfl, aT_mem 945 (by decide +kernel) rfl, by decide, by decide, by decide +kernel⟩
theorem loX8_1 : Cond.methodLink RX8 1 Lib.objectInit ∈ aT := aT_mem 95 (by decide +kernel) rfl
theorem liX8_17 : aLkI RX8 17 yX5_init cX5_init 1 0 := ⟨Or.inr (by simp [aNst]), aT_mem 103 (by decide +kernel) rfl, aT_mem 73 (by decide +kernel) rfl, aT_mem 104 (by decide +kernel) rfl, rfl, by decide, by decide, by decide +kernel⟩
theorem liX8_24 : aLkI RX8 24 yX0_init cX0_init 1 0 := ⟨Or.inr (by simp [aNst]), aT_mem 127 (by decide +kernel) rfl, aT_mem 75 (by decide +kernel) rfl, aT_mem 128 (by decide +kernel) rfl, rfl, by decide, by decide, by decide +kernel⟩
theorem liX8_31 : aLkI RX8 31 yX6_init cX6_init 1 0 := ⟨Or.inr (by simp [aNst]), aT_mem 148 (by decide +kernel) rfl, aT_mem 76 (by decide +kernel) rfl, aT_mem 149 (by decide +kernel) rfl, rfl, by decide, by decide, by decide +kernel⟩
theorem liX8_38 : aLkI RX8 38 yX2_init cX2_init 1 0 := ⟨Or.inr (by simp [aNst]), aT_mem 182 (by decide +kernel) rfl, aT_mem 78 (by decide +kernel) rfl, aT_mem 183 (by decide +kernel) rfl, rfl, by decide, by decide, by decide +kernel⟩
theorem liX8_60 : aLkI RX8 60 yX4_init cX4_init 4 3 := ⟨Or.inl (aT_mem 310 (by decide +kernel) rfl), aT_mem 311 (by decide +kernel) rfl, aT_mem 84 (by decide +kernel) rfl, aT_mem 312 (by decide +kernel) rfl, rfl, by decide, by decide, by decide +kernel⟩
theorem loX0_1 : Cond.methodLink RX0 1 Lib.objectInit ∈ aT := aT_mem 129 (by decide +kernel) rfl
theorem liX0_9 : aLkI RX0 9 yX3_init cX3_init 1 0 := ⟨Or.inr (by simp [aNst]), aT_mem 109 (by decide +kernel) rfl, aT_mem 74 (by decide +kernel) rfl, aT_mem 110 (by decide +kernel) rfl, rfl, by decide, by decide, by decide +kernel⟩
theorem loX2_1 : Cond.methodLink RX2 1 Lib.objectInit ∈ aT := aT_mem 184 (by decide +kernel) rfl
theorem liX2_9 : aLkI RX2 9 yX3_init cX3_init 1 0 := ⟨Or.inr (by simp [aNst]), aT_mem 109 (by decide +kernel) rfl, aT_mem 74 (by decide +kernel) rfl, aT_mem 110 (by decide +kernel) rfl, rfl, by decide, by decide, by decide +kernel⟩
theorem loX3_1 : Cond.methodLink RX3 1 Lib.objectInit ∈ aT := aT_mem 111 (by decide +kernel) rfl
theorem loX4_3 : Cond.methodLink RX4 3 Lib.objectInit ∈ aT := aT_mem 313 (by decide +kernel) rfl
theorem loX5_3 : Cond.methodLink RX5 3 Lib.objectInit ∈ aT := aT_mem 105 (by decide +kernel) rfl
theorem liX5_11 : aLkI RX5 11 yX3_init cX3_init 1 0 := ⟨Or.inr (by simp [aNst]), aT_mem 109 (by decide +kernel) rfl, aT_mem 74 (by decide +kernel) rfl, aT_mem 110 (by decide +kernel) rfl, rfl, by decide, by decide, by decide +kernel⟩
theorem loX6_3 : Cond.methodLink RX6 3 Lib.objectInit ∈ aT := aT_mem 150 (by decide +kernel) rfl
theorem liX6_11 : aLkI RX6 11 yX7_init cX7_init 1 0 := ⟨Or.inr (by simp [aNst]), aT_mem 154 (by decide +kernel) rfl, aT_mem 77 (by decide +kernel) rfl, aT_mem 155 (by decide +kernel) rfl, rfl, by decide, by decide, by decide +kernel⟩
theorem liX6_20 : aLkI RX6 20 yX3_init cX3_init 1 0 := ⟨Or.inr (by simp [aNst]), aT_mem 109 (by decide +kernel) rfl, aT_mem 74 (by decide +kernel) rfl, aT_mem 110 (by decide +kernel) rfl, rfl, by decide, by decide, by decide +kernel⟩
theorem loX7_3 : Cond.methodLink RX7 3 Lib.objectInit ∈ aT := aT_mem 156 (by decide +kernel) rfl
theorem liL_56 : aLkI RL 56 yX8_init cX8_init 1 0 := ⟨Or.inl (aT_mem 92 (by decide +kernel) rfl), aT_mem 93 (by decide +kernel) rfl, aT_mem 72 (by decide +kernel) rfl, aT_mem 94 (by decide +kernel) rfl, rfl, by decide, by decide, by decide +kernel⟩
theorem liL_59 : aLkI RL 59 yX9_init cX9_init 1 0 := ⟨Or.inl (aT_mem 837 (by decide +kernel) rfl), aT_mem 838 (by decide +kernel) rfl, aT_mem 79 (by decide +kernel) rfl, aT_mem 839 (by decide +kernel) rfl, rfl, by decide, by decide, by decide +kernel⟩
theorem loX9_1 : Cond.methodLink RX9 1 Lib.objectInit ∈ aT := aT_mem 840 (by decide +kernel) rfl
end
