/-! code of PackedDecimals$Numeral (printed by gen.py) -/
def blX4_init_0 : List aIn := [(.aload_n 0, 0, 0, 0, []), (.invokespecial 3, 1, 0, 0, [])]
def blX4_init_4 : List aIn := [(.aload_n 0, 0, 0, 0, []), (.iload_n 1, 1, 0, 0, []), (.putfield 9, 5, 0, 0, []), (.aload_n 0, 0, 0, 0, []), (.iload_n 2, 2, 0, 0, []), (.putfield 15, 5, 1, 0, []), (.aload_n 0, 0, 0, 0, []), (.iload_n 3, 3, 0, 0, []), (.putfield 18, 5, 2, 0, []), (.aload_n 0, 0, 0, 0, []), (.iconst 0, 0, 0, 0, []), (.iload_n 1, 1, 0, 0, []), (.iload_n 2, 2, 0, 0, []), (.invokestatic 21, 2, 0, 0, [])]
def blX4_init_26 : List aIn := [(.invokestatic 25, 2, 0, 0, [])]
def blX4_init_29 : List aIn := [(.newarray .byte, 1, 0, 0, []), (.putfield 30, 5, 3, 2, []), (.return_, 0, 0, 0, [])]
def bkX4_init : List (Nat × List aIn) := [(0, blX4_init_0), (4, blX4_init_4), (26, blX4_init_26), (29, blX4_init_29)]
theorem bqX4_init_0 : aLook bkX4_init 0 = some blX4_init_0 := rfl
theorem bqX4_init_4 : aLook bkX4_init 4 = some blX4_init_4 := rfl
theorem bqX4_init_26 : aLook bkX4_init 26 = some blX4_init_26 := rfl
theorem bqX4_init_29 : aLook bkX4_init 29 = some blX4_init_29 := rfl
theorem boX4_init : ∀ pc is, aLook bkX4_init pc = some is → aBlk RX4 cX4_init 4 true pc is := aBks_ok (lk := lkX4i) lkX4i_ok (by decide +kernel)
def blX4_byteCount_0 : List aIn := [(.iload_n 0, 0, 0, 0, []), (.tableswitch 109 2 11 #[55, 55, 109, 59, 59, 65, 65, 98, 100, 103], 2, 110, 0, [56, 56, 110, 60, 60, 66, 66, 99, 101, 104])]
def blX4_byteCount_56 : List aIn := [(.iload_n 1, 1, 0, 0, []), (.iconst 1, 1, 0, 0, []), (.iadd, 0, 0, 0, []), (.ireturn, 0, 0, 0, [])]
def blX4_byteCount_60 : List aIn := [(.iload_n 1, 1, 0, 0, []), (.iconst 2, 2, 0, 0, []), (.idiv, 0, 0, 0, []), (.iconst 1, 1, 0, 0, []), (.iadd, 0, 0, 0, []), (.ireturn, 0, 0, 0, [])]
def blX4_byteCount_66 : List aIn := [(.iload_n 1, 1, 0, 0, []), (.iconst 4, 4, 0, 0, []), (.if_icmp .gt 7, 75, 0, 0, [])]
def blX4_byteCount_71 : List aIn := [(.iconst 2, 2, 0, 0, []), (.goto 26, 98, 0, 0, [])]
def blX4_byteCount_75 : List aIn := [(.iload_n 1, 1, 0, 0, []), (.bipush 9, 9, 0, 0, []), (.if_icmp .gt 7, 85, 0, 0, [])]
def blX4_byteCount_81 : List aIn := [(.iconst 4, 4, 0, 0, []), (.goto 16, 98, 0, 0, [])]
def blX4_byteCount_85 : List aIn := [(.iload_n 1, 1, 0, 0, []), (.bipush 18, 18, 0, 0, []), (.if_icmp .gt 8, 96, 0, 0, [])]
def blX4_byteCount_91 : List aIn := [(.bipush 8, 8, 0, 0, []), (.goto 5, 98, 0, 0, [])]
def blX4_byteCount_96 : List aIn := [(.bipush 16, 16, 0, 0, [])]
def blX4_byteCount_98 : List aIn := [(.ireturn, 0, 0, 0, [])]
def blX4_byteCount_99 : List aIn := [(.iconst 4, 4, 0, 0, []), (.ireturn, 0, 0, 0, [])]
def blX4_byteCount_101 : List aIn := [(.bipush 8, 8, 0, 0, []), (.ireturn, 0, 0, 0, [])]
def blX4_byteCount_104 : List aIn := [(.iconst 2, 2, 0, 0, []), (.iload_n 1, 1, 0, 0, []), (.imul, 0, 0, 0, []), (.iconst 2, 2, 0, 0, []), (.iadd, 0, 0, 0, []), (.ireturn, 0, 0, 0, [])]
def blX4_byteCount_110 : List aIn := [(.iload_n 1, 1, 0, 0, []), (.ireturn, 0, 0, 0, [])]
def bkX4_byteCount : List (Nat × List aIn) := [(0, blX4_byteCount_0), (56, blX4_byteCount_56), (60, blX4_byteCount_60), (66, blX4_byteCount_66), (71, blX4_byteCount_71), (75, blX4_byteCount_75), (81, blX4_byteCount_81), (85, blX4_byteCount_85), (91, blX4_byteCount_91), (96, blX4_byteCount_96), (98, blX4_byteCount_98), (99, blX4_byteCount_99), (101, blX4_byteCount_101), (104, blX4_byteCount_104), (110, blX4_byteCount_110)]
theorem bqX4_byteCount_0 : aLook bkX4_byteCount 0 = some blX4_byteCount_0 := rfl
theorem bqX4_byteCount_56 : aLook bkX4_byteCount 56 = some blX4_byteCount_56 := rfl
theorem bqX4_byteCount_60 : aLook bkX4_byteCount 60 = some blX4_byteCount_60 := rfl
theorem bqX4_byteCount_66 : aLook bkX4_byteCount 66 = some blX4_byteCount_66 := rfl
theorem bqX4_byteCount_71 : aLook bkX4_byteCount 71 = some blX4_byteCount_71 := rfl
theorem bqX4_byteCount_75 : aLook bkX4_byteCount 75 = some blX4_byteCount_75 := rfl
theorem bqX4_byteCount_81 : aLook bkX4_byteCount 81 = some blX4_byteCount_81 := rfl
theorem bqX4_byteCount_85 : aLook bkX4_byteCount 85 = some blX4_byteCount_85 := rfl
theorem bqX4_byteCount_91 : aLook bkX4_byteCount 91 = some blX4_byteCount_91 := rfl
theorem bqX4_byteCount_96 : aLook bkX4_byteCount 96 = some blX4_byteCount_96 := rfl
theorem bqX4_byteCount_98 : aLook bkX4_byteCount 98 = some blX4_byteCount_98 := rfl
theorem bqX4_byteCount_99 : aLook bkX4_byteCount 99 = some blX4_byteCount_99 := rfl
theorem bqX4_byteCount_101 : aLook bkX4_byteCount 101 = some blX4_byteCount_101 := rfl
theorem bqX4_byteCount_104 : aLook bkX4_byteCount 104 = some blX4_byteCount_104 := rfl
theorem bqX4_byteCount_110 : aLook bkX4_byteCount 110 = some blX4_byteCount_110 := rfl
theorem boX4_byteCount : ∀ pc is, aLook bkX4_byteCount pc = some is → aBlk RX4 cX4_byteCount 2 false pc is := aBks_ok (lk := lkX4) lkX4_ok (by decide +kernel)
def blX4_floating_0 : List aIn := [(.aload_n 0, 0, 0, 0, []), (.getfield 9, 5, 0, 0, []), (.bipush 9, 9, 0, 0, []), (.if_icmp .eq 12, 18, 0, 0, [])]
def blX4_floating_9 : List aIn := [(.aload_n 0, 0, 0, 0, []), (.getfield 9, 5, 0, 0, []), (.bipush 10, 10, 0, 0, []), (.if_icmp .ne 7, 22, 0, 0, [])]
def blX4_floating_18 : List aIn := [(.iconst 1, 1, 0, 0, []), (.goto 4, 23, 0, 0, [])]
def blX4_floating_22 : List aIn := [(.iconst 0, 0, 0, 0, [])]
def blX4_floating_23 : List aIn := [(.ireturn, 0, 0, 0, [])]
def bkX4_floating : List (Nat × List aIn) := [(0, blX4_floating_0), (9, blX4_floating_9), (18, blX4_floating_18), (22, blX4_floating_22), (23, blX4_floating_23)]
theorem bqX4_floating_0 : aLook bkX4_floating 0 = some blX4_floating_0 := rfl
theorem bqX4_floating_9 : aLook bkX4_floating 9 = some blX4_floating_9 := rfl
theorem bqX4_floating_18 : aLook bkX4_floating 18 = some blX4_floating_18 := rfl
theorem bqX4_floating_22 : aLook bkX4_floating 22 = some blX4_floating_22 := rfl
theorem bqX4_floating_23 : aLook bkX4_floating 23 = some blX4_floating_23 := rfl
theorem boX4_floating : ∀ pc is, aLook bkX4_floating pc = some is → aBlk RX4 cX4_floating 1 false pc is := aBks_ok (lk := lkX4) lkX4_ok (by decide +kernel)
def blX4_signless_0 : List aIn := [(.aload_n 0, 0, 0, 0, []), (.getfield 9, 5, 0, 0, []), (.iconst 4, 4, 0, 0, []), (.if_icmp .eq 12, 17, 0, 0, [])]
def blX4_signless_8 : List aIn := [(.aload_n 0, 0, 0, 0, []), (.getfield 9, 5, 0, 0, []), (.bipush 6, 6, 0, 0, []), (.if_icmp .ne 7, 21, 0, 0, [])]
def blX4_signless_17 : List aIn := [(.iconst 1, 1, 0, 0, []), (.goto 4, 22, 0, 0, [])]
def blX4_signless_21 : List aIn := [(.iconst 0, 0, 0, 0, [])]
def blX4_signless_22 : List aIn := [(.ireturn, 0, 0, 0, [])]
def bkX4_signless : List (Nat × List aIn) := [(0, blX4_signless_0), (8, blX4_signless_8), (17, blX4_signless_17), (21, blX4_signless_21), (22, blX4_signless_22)]
theorem bqX4_signless_0 : aLook bkX4_signless 0 = some blX4_signless_0 := rfl
theorem bqX4_signless_8 : aLook bkX4_signless 8 = some blX4_signless_8 := rfl
theorem bqX4_signless_17 : aLook bkX4_signless 17 = some blX4_signless_17 := rfl
theorem bqX4_signless_21 : aLook bkX4_signless 21 = some blX4_signless_21 := rfl
theorem bqX4_signless_22 : aLook bkX4_signless 22 = some blX4_signless_22 := rfl
theorem boX4_signless : ∀ pc is, aLook bkX4_signless pc = some is → aBlk RX4 cX4_signless 1 false pc is := aBks_ok (lk := lkX4) lkX4_ok (by decide +kernel)
def blX4_signedDigit_0 : List aIn := [(.aload_n 0, 0, 0, 0, []), (.getfield 9, 5, 0, 0, []), (.ifCond .ne 12, 16, 0, 0, [])]
def blX4_signedDigit_7 : List aIn := [(.aload_n 0, 0, 0, 0, []), (.getfield 15, 5, 1, 0, []), (.iconst 1, 1, 0, 0, []), (.isub, 0, 0, 0, []), (.goto 16, 29, 0, 0, [])]
def blX4_signedDigit_16 : List aIn := [(.aload_n 0, 0, 0, 0, []), (.getfield 9, 5, 0, 0, []), (.iconst 1, 1, 0, 0, []), (.if_icmp .ne 7, 28, 0, 0, [])]
def blX4_signedDigit_24 : List aIn := [(.iconst 0, 0, 0, 0, []), (.goto 4, 29, 0, 0, [])]
def blX4_signedDigit_28 : List aIn := [(.iconst (-1), 1, 1, 0, [])]
def blX4_signedDigit_29 : List aIn := [(.ireturn, 0, 0, 0, [])]
def bkX4_signedDigit : List (Nat × List aIn) := [(0, blX4_signedDigit_0), (7, blX4_signedDigit_7), (16, blX4_signedDigit_16), (24, blX4_signedDigit_24), (28, blX4_signedDigit_28), (29, blX4_signedDigit_29)]
theorem bqX4_signedDigit_0 : aLook bkX4_signedDigit 0 = some blX4_signedDigit_0 := rfl
theorem bqX4_signedDigit_7 : aLook bkX4_signedDigit 7 = some blX4_signedDigit_7 := rfl
theorem bqX4_signedDigit_16 : aLook bkX4_signedDigit 16 = some blX4_signedDigit_16 := rfl
theorem bqX4_signedDigit_24 : aLook bkX4_signedDigit 24 = some blX4_signedDigit_24 := rfl
theorem bqX4_signedDigit_28 : aLook bkX4_signedDigit 28 = some blX4_signedDigit_28 := rfl
theorem bqX4_signedDigit_29 : aLook bkX4_signedDigit 29 = some blX4_signedDigit_29 := rfl
theorem boX4_signedDigit : ∀ pc is, aLook bkX4_signedDigit pc = some is → aBlk RX4 cX4_signedDigit 1 false pc is := aBks_ok (lk := lkX4) lkX4_ok (by decide +kernel)
def blX4_signByte_0 : List aIn := [(.aload_n 0, 0, 0, 0, []), (.getfield 9, 5, 0, 0, []), (.iconst 2, 2, 0, 0, []), (.if_icmp .ne 10, 15, 0, 0, [])]
def blX4_signByte_8 : List aIn := [(.aload_n 0, 0, 0, 0, []), (.getfield 15, 5, 1, 0, []), (.goto 16, 28, 0, 0, [])]
def blX4_signByte_15 : List aIn := [(.aload_n 0, 0, 0, 0, []), (.getfield 9, 5, 0, 0, []), (.iconst 3, 3, 0, 0, []), (.if_icmp .ne 7, 27, 0, 0, [])]
def blX4_signByte_23 : List aIn := [(.iconst 0, 0, 0, 0, []), (.goto 4, 28, 0, 0, [])]
def blX4_signByte_27 : List aIn := [(.iconst (-1), 1, 1, 0, [])]
def blX4_signByte_28 : List aIn := [(.ireturn, 0, 0, 0, [])]
def bkX4_signByte : List (Nat × List aIn) := [(0, blX4_signByte_0), (8, blX4_signByte_8), (15, blX4_signByte_15), (23, blX4_signByte_23), (27, blX4_signByte_27), (28, blX4_signByte_28)]
theorem bqX4_signByte_0 : aLook bkX4_signByte 0 = some blX4_signByte_0 := rfl
theorem bqX4_signByte_8 : aLook bkX4_signByte 8 = some blX4_signByte_8 := rfl
theorem bqX4_signByte_15 : aLook bkX4_signByte 15 = some blX4_signByte_15 := rfl
theorem bqX4_signByte_23 : aLook bkX4_signByte 23 = some blX4_signByte_23 := rfl
theorem bqX4_signByte_27 : aLook bkX4_signByte 27 = some blX4_signByte_27 := rfl
theorem bqX4_signByte_28 : aLook bkX4_signByte 28 = some blX4_signByte_28 := rfl
theorem boX4_signByte : ∀ pc is, aLook bkX4_signByte pc = some is → aBlk RX4 cX4_signByte 1 false pc is := aBks_ok (lk := lkX4) lkX4_ok (by decide +kernel)
def blX4_firstZonedByte_0 : List aIn := [(.aload_n 0, 0, 0, 0, []), (.getfield 9, 5, 0, 0, []), (.iconst 3, 3, 0, 0, []), (.if_icmp .ne 7, 12, 0, 0, [])]
def blX4_firstZonedByte_8 : List aIn := [(.iconst 1, 1, 0, 0, []), (.goto 4, 13, 0, 0, [])]
def blX4_firstZonedByte_12 : List aIn := [(.iconst 0, 0, 0, 0, [])]
def blX4_firstZonedByte_13 : List aIn := [(.ireturn, 0, 0, 0, [])]
def bkX4_firstZonedByte : List (Nat × List aIn) := [(0, blX4_firstZonedByte_0), (8, blX4_firstZonedByte_8), (12, blX4_firstZonedByte_12), (13, blX4_firstZonedByte_13)]
theorem bqX4_firstZonedByte_0 : aLook bkX4_firstZonedByte 0 = some blX4_firstZonedByte_0 := rfl
theorem bqX4_firstZonedByte_8 : aLook bkX4_firstZonedByte 8 = some blX4_firstZonedByte_8 := rfl
theorem bqX4_firstZonedByte_12 : aLook bkX4_firstZonedByte 12 = some blX4_firstZonedByte_12 := rfl
theorem bqX4_firstZonedByte_13 : aLook bkX4_firstZonedByte 13 = some blX4_firstZonedByte_13 := rfl
theorem boX4_firstZonedByte : ∀ pc is, aLook bkX4_firstZonedByte pc = some is → aBlk RX4 cX4_firstZonedByte 1 false pc is := aBks_ok (lk := lkX4) lkX4_ok (by decide +kernel)
def blX4_packedLead_0 : List aIn := [(.aload_n 0, 0, 0, 0, []), (.getfield 15, 5, 1, 0, []), (.iconst 2, 2, 0, 0, []), (.irem, 0, 0, 0, []), (.ifCond .ne 7, 13, 0, 0, [])]
def blX4_packedLead_9 : List aIn := [(.iconst 1, 1, 0, 0, []), (.goto 4, 14, 0, 0, [])]
def blX4_packedLead_13 : List aIn := [(.iconst 0, 0, 0, 0, [])]
def blX4_packedLead_14 : List aIn := [(.ireturn, 0, 0, 0, [])]
def bkX4_packedLead : List (Nat × List aIn) := [(0, blX4_packedLead_0), (9, blX4_packedLead_9), (13, blX4_packedLead_13), (14, blX4_packedLead_14)]
theorem bqX4_packedLead_0 : aLook bkX4_packedLead 0 = some blX4_packedLead_0 := rfl
theorem bqX4_packedLead_9 : aLook bkX4_packedLead 9 = some blX4_packedLead_9 := rfl
theorem bqX4_packedLead_13 : aLook bkX4_packedLead 13 = some blX4_packedLead_13 := rfl
theorem bqX4_packedLead_14 : aLook bkX4_packedLead 14 = some blX4_packedLead_14 := rfl
theorem boX4_packedLead : ∀ pc is, aLook bkX4_packedLead pc = some is → aBlk RX4 cX4_packedLead 1 false pc is := aBks_ok (lk := lkX4) lkX4_ok (by decide +kernel)
def blX4_get_0 : List aIn := [(.iload_n 1, 1, 0, 0, []), (.ifCond .lt 25, 26, 0, 0, [])]
def blX4_get_4 : List aIn := [(.iload_n 1, 1, 0, 0, []), (.aload_n 0, 0, 0, 0, []), (.getfield 30, 5, 3, 2, []), (.arraylength, 0, 0, 0, []), (.if_icmp .ge 16, 26, 0, 0, [])]
def blX4_get_13 : List aIn := [(.aload_n 0, 0, 0, 0, []), (.getfield 30, 5, 3, 2, []), (.iload_n 1, 1, 0, 0, []), (.baload, 0, 0, 0, []), (.sipush 255, 255, 0, 0, []), (.iand, 0, 0, 0, []), (.goto 4, 27, 0, 0, [])]
def blX4_get_26 : List aIn := [(.iconst 0, 0, 0, 0, [])]
def blX4_get_27 : List aIn := [(.ireturn, 0, 0, 0, [])]
def bkX4_get : List (Nat × List aIn) := [(0, blX4_get_0), (4, blX4_get_4), (13, blX4_get_13), (26, blX4_get_26), (27, blX4_get_27)]
theorem bqX4_get_0 : aLook bkX4_get 0 = some blX4_get_0 := rfl
theorem bqX4_get_4 : aLook bkX4_get 4 = some blX4_get_4 := rfl
theorem bqX4_get_13 : aLook bkX4_get 13 = some blX4_get_13 := rfl
theorem bqX4_get_26 : aLook bkX4_get 26 = some blX4_get_26 := rfl
theorem bqX4_get_27 : aLook bkX4_get 27 = some blX4_get_27 := rfl
theorem boX4_get : ∀ pc is, aLook bkX4_get pc = some is → aBlk RX4 cX4_get 2 false pc is := aBks_ok (lk := lkX4) lkX4_ok (by decide +kernel)
def blX4_put_0 : List aIn := [(.iload_n 1, 1, 0, 0, []), (.ifCond .lt 20, 21, 0, 0, [])]
def blX4_put_4 : List aIn := [(.iload_n 1, 1, 0, 0, []), (.aload_n 0, 0, 0, 0, []), (.getfield 30, 5, 3, 2, []), (.arraylength, 0, 0, 0, []), (.if_icmp .ge 11, 21, 0, 0, [])]
def blX4_put_13 : List aIn := [(.aload_n 0, 0, 0, 0, []), (.getfield 30, 5, 3, 2, []), (.iload_n 1, 1, 0, 0, []), (.iload_n 2, 2, 0, 0, []), (.i2b, 0, 0, 0, []), (.bastore, 0, 0, 0, [])]
def blX4_put_21 : List aIn := [(.return_, 0, 0, 0, [])]
def bkX4_put : List (Nat × List aIn) := [(0, blX4_put_0), (4, blX4_put_4), (13, blX4_put_13), (21, blX4_put_21)]
theorem bqX4_put_0 : aLook bkX4_put 0 = some blX4_put_0 := rfl
theorem bqX4_put_4 : aLook bkX4_put 4 = some blX4_put_4 := rfl
theorem bqX4_put_13 : aLook bkX4_put 13 = some blX4_put_13 := rfl
theorem bqX4_put_21 : aLook bkX4_put 21 = some blX4_put_21 := rfl
theorem boX4_put : ∀ pc is, aLook bkX4_put pc = some is → aBlk RX4 cX4_put 3 false pc is := aBks_ok (lk := lkX4) lkX4_ok (by decide +kernel)
def blX4_nibble_0 : List aIn := [(.aload_n 0, 0, 0, 0, []), (.iload_n 1, 1, 0, 0, []), (.iconst 2, 2, 0, 0, []), (.idiv, 0, 0, 0, []), (.invokevirtual 34, 2, 0, 0, [])]
def blX4_nibble_7 : List aIn := [(.istore_n 2, 2, 0, 0, []), (.iload_n 1, 1, 0, 0, []), (.iconst 2, 2, 0, 0, []), (.irem, 0, 0, 0, []), (.ifCond .ne 9, 20, 0, 0, [])]
def blX4_nibble_14 : List aIn := [(.iload_n 2, 2, 0, 0, []), (.iconst 4, 4, 0, 0, []), (.ishr, 0, 0, 0, []), (.goto 7, 24, 0, 0, [])]
def blX4_nibble_20 : List aIn := [(.iload_n 2, 2, 0, 0, []), (.bipush 15, 15, 0, 0, []), (.iand, 0, 0, 0, [])]
def blX4_nibble_24 : List aIn := [(.ireturn, 0, 0, 0, [])]
def bkX4_nibble : List (Nat × List aIn) := [(0, blX4_nibble_0), (7, blX4_nibble_7), (14, blX4_nibble_14), (20, blX4_nibble_20), (24, blX4_nibble_24)]
theorem bqX4_nibble_0 : aLook bkX4_nibble 0 = some blX4_nibble_0 := rfl
theorem bqX4_nibble_7 : aLook bkX4_nibble 7 = some blX4_nibble_7 := rfl
theorem bqX4_nibble_14 : aLook bkX4_nibble 14 = some blX4_nibble_14 := rfl
theorem bqX4_nibble_20 : aLook bkX4_nibble 20 = some blX4_nibble_20 := rfl
theorem bqX4_nibble_24 : aLook bkX4_nibble 24 = some blX4_nibble_24 := rfl
theorem boX4_nibble : ∀ pc is, aLook bkX4_nibble pc = some is → aBlk RX4 cX4_nibble 3 false pc is := aBks_ok (lk := lkX4) lkX4_ok (by decide +kernel)
def blX4_putNibble_0 : List aIn := [(.aload_n 0, 0, 0, 0, []), (.iload_n 1, 1, 0, 0, []), (.iconst 2, 2, 0, 0, []), (.idiv, 0, 0, 0, []), (.invokevirtual 34, 2, 0, 0, [])]
def blX4_putNibble_7 : List aIn := [(.istore_n 3, 3, 0, 0, []), (.aload_n 0, 0, 0, 0, []), (.iload_n 1, 1, 0, 0, []), (.iconst 2, 2, 0, 0, []), (.idiv, 0, 0, 0, []), (.iload_n 1, 1, 0, 0, []), (.iconst 2, 2, 0, 0, []), (.irem, 0, 0, 0, []), (.ifCond .ne 14, 29, 0, 0, [])]
def blX4_putNibble_18 : List aIn := [(.iload_n 2, 2, 0, 0, []), (.iconst 4, 4, 0, 0, []), (.ishl, 0, 0, 0, []), (.iload_n 3, 3, 0, 0, []), (.bipush 15, 15, 0, 0, []), (.iand, 0, 0, 0, []), (.ior, 0, 0, 0, []), (.goto 10, 36, 0, 0, [])]
def blX4_putNibble_29 : List aIn := [(.iload_n 3, 3, 0, 0, []), (.sipush 240, 240, 0, 0, []), (.iand, 0, 0, 0, []), (.iload_n 2, 2, 0, 0, []), (.ior, 0, 0, 0, [])]
def blX4_putNibble_36 : List aIn := [(.invokevirtual 38, 3, 0, 0, [])]
def blX4_putNibble_39 : List aIn := [(.return_, 0, 0, 0, [])]
def bkX4_putNibble : List (Nat × List aIn) := [(0, blX4_putNibble_0), (7, blX4_putNibble_7), (18, blX4_putNibble_18), (29, blX4_putNibble_29), (36, blX4_putNibble_36), (39, blX4_putNibble_39)]
theorem bqX4_putNibble_0 : aLook bkX4_putNibble 0 = some blX4_putNibble_0 := rfl
theorem bqX4_putNibble_7 : aLook bkX4_putNibble 7 = some blX4_putNibble_7 := rfl
theorem bqX4_putNibble_18 : aLook bkX4_putNibble 18 = some blX4_putNibble_18 := rfl
theorem bqX4_putNibble_29 : aLook bkX4_putNibble 29 = some blX4_putNibble_29 := rfl
theorem bqX4_putNibble_36 : aLook bkX4_putNibble 36 = some blX4_putNibble_36 := rfl
theorem bqX4_putNibble_39 : aLook bkX4_putNibble 39 = some blX4_putNibble_39 := rfl
theorem boX4_putNibble : ∀ pc is, aLook bkX4_putNibble pc = some is → aBlk RX4 cX4_putNibble 4 false pc is := aBks_ok (lk := lkX4) lkX4_ok (by decide +kernel)
