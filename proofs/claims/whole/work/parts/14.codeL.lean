/-! code of PackedDecimalsLaw (printed by gen.py) -/
def blL_number_0 : List aIn := [(.aload 4, 4, 0, 0, []), (.iconst 0, 0, 0, 0, []), (.aload_n 0, 0, 0, 0, []), (.iload_n 1, 1, 0, 0, []), (.iload_n 2, 2, 0, 0, []), (.iload_n 3, 3, 0, 0, []), (.invokevirtual 7, 4, 0, 0, [])]
def blL_number_10 : List aIn := [(.i2l, 0, 0, 0, []), (.lastore, 0, 0, 0, []), (.goto 7, 19, 0, 0, [])]
def blL_number_15 : List aIn := [(.astore 5, 5, 0, 0, []), (.iconst 1, 1, 0, 0, []), (.ireturn, 0, 0, 0, [])]
def blL_number_19 : List aIn := [(.iconst 0, 0, 0, 0, []), (.ireturn, 0, 0, 0, [])]
def bkL_number : List (Nat × List aIn) := [(0, blL_number_0), (10, blL_number_10), (15, blL_number_15), (19, blL_number_19)]
theorem bqL_number_0 : aLook bkL_number 0 = some blL_number_0 := rfl
theorem bqL_number_10 : aLook bkL_number 10 = some blL_number_10 := rfl
theorem bqL_number_15 : aLook bkL_number 15 = some blL_number_15 := rfl
theorem bqL_number_19 : aLook bkL_number 19 = some blL_number_19 := rfl
theorem boL_number : ∀ pc is, aLook bkL_number pc = some is → aBlk RL cL_number 6 false pc is := aBks_ok (lk := lkL) lkL_ok (by decide +kernel)
def blL_octet_0 : List aIn := [(.aload_n 0, 0, 0, 0, []), (.iload_n 1, 1, 0, 0, []), (.iload_n 2, 2, 0, 0, []), (.iload_n 3, 3, 0, 0, []), (.invokevirtual 15, 4, 0, 0, [])]
def blL_octet_7 : List aIn := [(.goto 7, 14, 0, 0, [])]
def blL_octet_10 : List aIn := [(.astore 4, 4, 0, 0, []), (.iconst 1, 1, 0, 0, []), (.ireturn, 0, 0, 0, [])]
def blL_octet_14 : List aIn := [(.iconst 0, 0, 0, 0, []), (.ireturn, 0, 0, 0, [])]
def bkL_octet : List (Nat × List aIn) := [(0, blL_octet_0), (7, blL_octet_7), (10, blL_octet_10), (14, blL_octet_14)]
theorem bqL_octet_0 : aLook bkL_octet 0 = some blL_octet_0 := rfl
theorem bqL_octet_7 : aLook bkL_octet 7 = some blL_octet_7 := rfl
theorem bqL_octet_10 : aLook bkL_octet 10 = some blL_octet_10 := rfl
theorem bqL_octet_14 : aLook bkL_octet 14 = some blL_octet_14 := rfl
theorem boL_octet : ∀ pc is, aLook bkL_octet pc = some is → aBlk RL cL_octet 5 false pc is := aBks_ok (lk := lkL) lkL_ok (by decide +kernel)
def blL_at_0 : List aIn := [(.aload_n 3, 3, 0, 0, []), (.iconst 0, 0, 0, 0, []), (.aload_n 0, 0, 0, 0, []), (.iload_n 1, 1, 0, 0, []), (.iload_n 2, 2, 0, 0, []), (.invokevirtual 21, 3, 0, 0, [])]
def blL_at_8 : List aIn := [(.i2l, 0, 0, 0, []), (.lastore, 0, 0, 0, []), (.goto 7, 17, 0, 0, [])]
def blL_at_13 : List aIn := [(.astore 4, 4, 0, 0, []), (.iconst 1, 1, 0, 0, []), (.ireturn, 0, 0, 0, [])]
def blL_at_17 : List aIn := [(.iconst 0, 0, 0, 0, []), (.ireturn, 0, 0, 0, [])]
def bkL_at : List (Nat × List aIn) := [(0, blL_at_0), (8, blL_at_8), (13, blL_at_13), (17, blL_at_17)]
theorem bqL_at_0 : aLook bkL_at 0 = some blL_at_0 := rfl
theorem bqL_at_8 : aLook bkL_at 8 = some blL_at_8 := rfl
theorem bqL_at_13 : aLook bkL_at 13 = some blL_at_13 := rfl
theorem bqL_at_17 : aLook bkL_at 17 = some blL_at_17 := rfl
theorem boL_at : ∀ pc is, aLook bkL_at pc = some is → aBlk RL cL_at 5 false pc is := aBks_ok (lk := lkL) lkL_ok (by decide +kernel)
def blL_size_0 : List aIn := [(.aload_n 2, 2, 0, 0, []), (.iconst 0, 0, 0, 0, []), (.aload_n 0, 0, 0, 0, []), (.iload_n 1, 1, 0, 0, []), (.invokevirtual 25, 2, 0, 0, [])]
def blL_size_7 : List aIn := [(.i2l, 0, 0, 0, []), (.lastore, 0, 0, 0, []), (.goto 6, 15, 0, 0, [])]
def blL_size_12 : List aIn := [(.astore_n 3, 3, 0, 0, []), (.iconst 1, 1, 0, 0, []), (.ireturn, 0, 0, 0, [])]
def blL_size_15 : List aIn := [(.iconst 0, 0, 0, 0, []), (.ireturn, 0, 0, 0, [])]
def bkL_size : List (Nat × List aIn) := [(0, blL_size_0), (7, blL_size_7), (12, blL_size_12), (15, blL_size_15)]
theorem bqL_size_0 : aLook bkL_size 0 = some blL_size_0 := rfl
theorem bqL_size_7 : aLook bkL_size 7 = some blL_size_7 := rfl
theorem bqL_size_12 : aLook bkL_size 12 = some blL_size_12 := rfl
theorem bqL_size_15 : aLook bkL_size 15 = some blL_size_15 := rfl
theorem boL_size : ∀ pc is, aLook bkL_size pc = some is → aBlk RL cL_size 4 false pc is := aBks_ok (lk := lkL) lkL_ok (by decide +kernel)
def blL_apply_0 : List aIn := [(.aload 5, 5, 0, 0, []), (.iconst 0, 0, 0, 0, []), (.aload_n 0, 0, 0, 0, []), (.iload_n 1, 1, 0, 0, []), (.iload_n 2, 2, 0, 0, []), (.iload_n 3, 3, 0, 0, []), (.iload 4, 4, 0, 0, []), (.invokevirtual 29, 5, 0, 0, [])]
def blL_apply_12 : List aIn := [(.i2l, 0, 0, 0, []), (.lastore, 0, 0, 0, []), (.goto 11, 25, 0, 0, [])]
def blL_apply_17 : List aIn := [(.astore 6, 6, 0, 0, []), (.iconst 1, 1, 0, 0, []), (.ireturn, 0, 0, 0, [])]
def blL_apply_21 : List aIn := [(.astore 6, 6, 0, 0, []), (.iconst 2, 2, 0, 0, []), (.ireturn, 0, 0, 0, [])]
def blL_apply_25 : List aIn := [(.iconst 0, 0, 0, 0, []), (.ireturn, 0, 0, 0, [])]
def bkL_apply : List (Nat × List aIn) := [(0, blL_apply_0), (12, blL_apply_12), (17, blL_apply_17), (21, blL_apply_21), (25, blL_apply_25)]
theorem bqL_apply_0 : aLook bkL_apply 0 = some blL_apply_0 := rfl
theorem bqL_apply_12 : aLook bkL_apply 12 = some blL_apply_12 := rfl
theorem bqL_apply_17 : aLook bkL_apply 17 = some blL_apply_17 := rfl
theorem bqL_apply_21 : aLook bkL_apply 21 = some blL_apply_21 := rfl
theorem bqL_apply_25 : aLook bkL_apply 25 = some blL_apply_25 := rfl
theorem boL_apply : ∀ pc is, aLook bkL_apply pc = some is → aBlk RL cL_apply 7 false pc is := aBks_ok (lk := lkL) lkL_ok (by decide +kernel)
def blL_compare_0 : List aIn := [(.aload_n 3, 3, 0, 0, []), (.iconst 0, 0, 0, 0, []), (.aload_n 0, 0, 0, 0, []), (.iload_n 1, 1, 0, 0, []), (.iload_n 2, 2, 0, 0, []), (.invokevirtual 35, 3, 0, 0, [])]
def blL_compare_8 : List aIn := [(.i2l, 0, 0, 0, []), (.lastore, 0, 0, 0, []), (.goto 7, 17, 0, 0, [])]
def blL_compare_13 : List aIn := [(.astore 4, 4, 0, 0, []), (.iconst 1, 1, 0, 0, []), (.ireturn, 0, 0, 0, [])]
def blL_compare_17 : List aIn := [(.iconst 0, 0, 0, 0, []), (.ireturn, 0, 0, 0, [])]
def bkL_compare : List (Nat × List aIn) := [(0, blL_compare_0), (8, blL_compare_8), (13, blL_compare_13), (17, blL_compare_17)]
theorem bqL_compare_0 : aLook bkL_compare 0 = some blL_compare_0 := rfl
theorem bqL_compare_8 : aLook bkL_compare 8 = some blL_compare_8 := rfl
theorem bqL_compare_13 : aLook bkL_compare 13 = some blL_compare_13 := rfl
theorem bqL_compare_17 : aLook bkL_compare 17 = some blL_compare_17 := rfl
theorem boL_compare : ∀ pc is, aLook bkL_compare pc = some is → aBlk RL cL_compare 5 false pc is := aBks_ok (lk := lkL) lkL_ok (by decide +kernel)
def blL_valid_0 : List aIn := [(.aload_n 2, 2, 0, 0, []), (.iconst 0, 0, 0, 0, []), (.aload_n 0, 0, 0, 0, []), (.iload_n 1, 1, 0, 0, []), (.invokevirtual 39, 2, 0, 0, [])]
def blL_valid_7 : List aIn := [(.ifCond .eq 7, 14, 0, 0, [])]
def blL_valid_10 : List aIn := [(.lconst 1, 1, 0, 0, []), (.goto 4, 15, 0, 0, [])]
def blL_valid_14 : List aIn := [(.lconst 0, 0, 0, 0, [])]
def blL_valid_15 : List aIn := [(.lastore, 0, 0, 0, []), (.goto 6, 22, 0, 0, [])]
def blL_valid_19 : List aIn := [(.astore_n 3, 3, 0, 0, []), (.iconst 1, 1, 0, 0, []), (.ireturn, 0, 0, 0, [])]
def blL_valid_22 : List aIn := [(.iconst 0, 0, 0, 0, []), (.ireturn, 0, 0, 0, [])]
def bkL_valid : List (Nat × List aIn) := [(0, blL_valid_0), (7, blL_valid_7), (10, blL_valid_10), (14, blL_valid_14), (15, blL_valid_15), (19, blL_valid_19), (22, blL_valid_22)]
theorem bqL_valid_0 : aLook bkL_valid 0 = some blL_valid_0 := rfl
theorem bqL_valid_7 : aLook bkL_valid 7 = some blL_valid_7 := rfl
theorem bqL_valid_10 : aLook bkL_valid 10 = some blL_valid_10 := rfl
theorem bqL_valid_14 : aLook bkL_valid 14 = some blL_valid_14 := rfl
theorem bqL_valid_15 : aLook bkL_valid 15 = some blL_valid_15 := rfl
theorem bqL_valid_19 : aLook bkL_valid 19 = some blL_valid_19 := rfl
theorem bqL_valid_22 : aLook bkL_valid 22 = some blL_valid_22 := rfl
theorem boL_valid : ∀ pc is, aLook bkL_valid pc = some is → aBlk RL cL_valid 4 false pc is := aBks_ok (lk := lkL) lkL_ok (by decide +kernel)
def blL_convert_0 : List aIn := [(.aload_n 3, 3, 0, 0, []), (.iconst 0, 0, 0, 0, []), (.aload_n 0, 0, 0, 0, []), (.iload_n 1, 1, 0, 0, []), (.iload_n 2, 2, 0, 0, []), (.invokevirtual 43, 3, 0, 0, [])]
def blL_convert_8 : List aIn := [(.i2l, 0, 0, 0, []), (.lastore, 0, 0, 0, []), (.goto 7, 17, 0, 0, [])]
def blL_convert_13 : List aIn := [(.astore 4, 4, 0, 0, []), (.iconst 1, 1, 0, 0, []), (.ireturn, 0, 0, 0, [])]
def blL_convert_17 : List aIn := [(.iconst 0, 0, 0, 0, []), (.ireturn, 0, 0, 0, [])]
def bkL_convert : List (Nat × List aIn) := [(0, blL_convert_0), (8, blL_convert_8), (13, blL_convert_13), (17, blL_convert_17)]
theorem bqL_convert_0 : aLook bkL_convert 0 = some blL_convert_0 := rfl
theorem bqL_convert_8 : aLook bkL_convert 8 = some blL_convert_8 := rfl
theorem bqL_convert_13 : aLook bkL_convert 13 = some blL_convert_13 := rfl
theorem bqL_convert_17 : aLook bkL_convert 17 = some blL_convert_17 := rfl
theorem boL_convert : ∀ pc is, aLook bkL_convert pc = some is → aBlk RL cL_convert 5 false pc is := aBks_ok (lk := lkL) lkL_ok (by decide +kernel)
def blL_digit_0 : List aIn := [(.aload_n 3, 3, 0, 0, []), (.iconst 0, 0, 0, 0, []), (.aload_n 0, 0, 0, 0, []), (.iload_n 1, 1, 0, 0, []), (.iload_n 2, 2, 0, 0, []), (.invokevirtual 46, 3, 0, 0, [])]
def blL_digit_8 : List aIn := [(.i2l, 0, 0, 0, []), (.lastore, 0, 0, 0, []), (.goto 7, 17, 0, 0, [])]
def blL_digit_13 : List aIn := [(.astore 4, 4, 0, 0, []), (.iconst 1, 1, 0, 0, []), (.ireturn, 0, 0, 0, [])]
def blL_digit_17 : List aIn := [(.iconst 0, 0, 0, 0, []), (.ireturn, 0, 0, 0, [])]
def bkL_digit : List (Nat × List aIn) := [(0, blL_digit_0), (8, blL_digit_8), (13, blL_digit_13), (17, blL_digit_17)]
theorem bqL_digit_0 : aLook bkL_digit 0 = some blL_digit_0 := rfl
theorem bqL_digit_8 : aLook bkL_digit 8 = some blL_digit_8 := rfl
theorem bqL_digit_13 : aLook bkL_digit 13 = some blL_digit_13 := rfl
theorem bqL_digit_17 : aLook bkL_digit 17 = some blL_digit_17 := rfl
theorem boL_digit : ∀ pc is, aLook bkL_digit pc = some is → aBlk RL cL_digit 5 false pc is := aBks_ok (lk := lkL) lkL_ok (by decide +kernel)
def blL_round_0 : List aIn := [(.aload_n 3, 3, 0, 0, []), (.iconst 0, 0, 0, 0, []), (.aload_n 0, 0, 0, 0, []), (.iload_n 1, 1, 0, 0, []), (.iload_n 2, 2, 0, 0, []), (.invokevirtual 49, 3, 0, 0, [])]
def blL_round_8 : List aIn := [(.i2l, 0, 0, 0, []), (.lastore, 0, 0, 0, []), (.goto 7, 17, 0, 0, [])]
def blL_round_13 : List aIn := [(.astore 4, 4, 0, 0, []), (.iconst 1, 1, 0, 0, []), (.ireturn, 0, 0, 0, [])]
def blL_round_17 : List aIn := [(.iconst 0, 0, 0, 0, []), (.ireturn, 0, 0, 0, [])]
def bkL_round : List (Nat × List aIn) := [(0, blL_round_0), (8, blL_round_8), (13, blL_round_13), (17, blL_round_17)]
theorem bqL_round_0 : aLook bkL_round 0 = some blL_round_0 := rfl
theorem bqL_round_8 : aLook bkL_round 8 = some blL_round_8 := rfl
theorem bqL_round_13 : aLook bkL_round 13 = some blL_round_13 := rfl
theorem bqL_round_17 : aLook bkL_round 17 = some blL_round_17 := rfl
theorem boL_round : ∀ pc is, aLook bkL_round pc = some is → aBlk RL cL_round 5 false pc is := aBks_ok (lk := lkL) lkL_ok (by decide +kernel)
def blL_half_0 : List aIn := [(.aload_n 2, 2, 0, 0, []), (.iconst 0, 0, 0, 0, []), (.aload_n 0, 0, 0, 0, []), (.iload_n 1, 1, 0, 0, []), (.invokevirtual 52, 2, 0, 0, [])]
def blL_half_7 : List aIn := [(.i2l, 0, 0, 0, []), (.lastore, 0, 0, 0, []), (.goto 6, 15, 0, 0, [])]
def blL_half_12 : List aIn := [(.astore_n 3, 3, 0, 0, []), (.iconst 1, 1, 0, 0, []), (.ireturn, 0, 0, 0, [])]
def blL_half_15 : List aIn := [(.iconst 0, 0, 0, 0, []), (.ireturn, 0, 0, 0, [])]
def bkL_half : List (Nat × List aIn) := [(0, blL_half_0), (7, blL_half_7), (12, blL_half_12), (15, blL_half_15)]
theorem bqL_half_0 : aLook bkL_half 0 = some blL_half_0 := rfl
theorem bqL_half_7 : aLook bkL_half 7 = some blL_half_7 := rfl
theorem bqL_half_12 : aLook bkL_half 12 = some blL_half_12 := rfl
theorem bqL_half_15 : aLook bkL_half 15 = some blL_half_15 := rfl
theorem boL_half : ∀ pc is, aLook bkL_half pc = some is → aBlk RL cL_half 4 false pc is := aBks_ok (lk := lkL) lkL_ok (by decide +kernel)
def blL_law_0 : List aIn := [(.new 8, 9, 8, 0, [2, 0, 2, 2, 2, 2, 2, 2]), (.dup, 0, 0, 0, []), (.invokespecial 56, 1, 0, 0, [])]
def blL_law_7 : List aIn := [(.astore_n 1, 1, 0, 0, []), (.new 57, 10, 14, 0, [0, 2, 2, 2, 2, 2, 2, 0, 2, 0, 0, 0, 0, 1]), (.dup, 0, 0, 0, []), (.invokespecial 59, 1, 0, 0, [])]
def blL_law_15 : List aIn := [(.astore_n 2, 2, 0, 0, []), (.iconst 1, 1, 0, 0, []), (.newarray .long, 2, 0, 0, []), (.astore_n 3, 3, 0, 0, []), (.iconst 0, 0, 0, 0, []), (.istore 4, 4, 0, 0, [])]
def blL_law_23 : List aIn := [(.iload 4, 4, 0, 0, []), (.aload_n 0, 0, 0, 0, []), (.arraylength, 0, 0, 0, []), (.iconst 5, 5, 0, 0, []), (.isub, 0, 0, 0, []), (.if_icmp .gt 822, 851, 0, 0, [])]
def blL_law_32 : List aIn := [(.aload_n 0, 0, 0, 0, []), (.iload 4, 4, 0, 0, []), (.iaload, 0, 0, 0, []), (.bipush 15, 15, 0, 0, []), (.iand, 0, 0, 0, []), (.tableswitch 806 0 10 #[57, 137, 199, 267, 323, 415, 483, 546, 614, 682, 750], 0, 845, 0, [96, 176, 238, 306, 362, 454, 522, 585, 653, 721, 789])]
def blL_law_96 : List aIn := [(.aload_n 1, 1, 0, 0, []), (.aload_n 0, 0, 0, 0, []), (.iload 4, 4, 0, 0, []), (.iconst 1, 1, 0, 0, []), (.iadd, 0, 0, 0, []), (.iaload, 0, 0, 0, []), (.aload_n 0, 0, 0, 0, []), (.iload 4, 4, 0, 0, []), (.iconst 2, 2, 0, 0, []), (.iadd, 0, 0, 0, []), (.iaload, 0, 0, 0, []), (.aload_n 0, 0, 0, 0, []), (.iload 4, 4, 0, 0, []), (.iconst 3, 3, 0, 0, []), (.iadd, 0, 0, 0, []), (.iaload, 0, 0, 0, []), (.aload_n 3, 3, 0, 0, []), (.invokestatic 60, 5, 0, 0, [])]
def blL_law_119 : List aIn := [(.istore 5, 5, 0, 0, []), (.aload_n 2, 2, 0, 0, []), (.aload_n 0, 0, 0, 0, []), (.iload 4, 4, 0, 0, []), (.iconst 1, 1, 0, 0, []), (.iadd, 0, 0, 0, []), (.iaload, 0, 0, 0, []), (.aload_n 0, 0, 0, 0, []), (.iload 4, 4, 0, 0, []), (.iconst 2, 2, 0, 0, []), (.iadd, 0, 0, 0, []), (.iaload, 0, 0, 0, []), (.aload_n 0, 0, 0, 0, []), (.iload 4, 4, 0, 0, []), (.iconst 3, 3, 0, 0, []), (.iadd, 0, 0, 0, []), (.iaload, 0, 0, 0, []), (.invokevirtual 65, 4, 0, 0, [])]
def blL_law_143 : List aIn := [(.istore 6, 6, 0, 0, []), (.aload_n 2, 2, 0, 0, []), (.invokevirtual 66, 1, 0, 0, [])]
def blL_law_149 : List aIn := [(.iload 5, 5, 0, 0, []), (.if_icmp .eq 5, 156, 0, 0, [])]
def blL_law_154 : List aIn := [(.iconst 0, 0, 0, 0, []), (.ireturn, 0, 0, 0, [])]
def blL_law_156 : List aIn := [(.iload 5, 5, 0, 0, []), (.ifCond .ne 15, 173, 0, 0, [])]
def blL_law_161 : List aIn := [(.aload_n 3, 3, 0, 0, []), (.iconst 0, 0, 0, 0, []), (.laload, 0, 0, 0, []), (.iload 6, 6, 0, 0, []), (.i2l, 0, 0, 0, []), (.lcmp, 0, 0, 0, []), (.ifCond .eq 5, 173, 0, 0, [])]
def blL_law_171 : List aIn := [(.iconst 0, 0, 0, 0, []), (.ireturn, 0, 0, 0, [])]
def blL_law_173 : List aIn := [(.goto 672, 845, 0, 0, [])]
def blL_law_176 : List aIn := [(.aload_n 1, 1, 0, 0, []), (.aload_n 0, 0, 0, 0, []), (.iload 4, 4, 0, 0, []), (.iconst 1, 1, 0, 0, []), (.iadd, 0, 0, 0, []), (.iaload, 0, 0, 0, []), (.aload_n 0, 0, 0, 0, []), (.iload 4, 4, 0, 0, []), (.iconst 2, 2, 0, 0, []), (.iadd, 0, 0, 0, []), (.iaload, 0, 0, 0, []), (.aload_n 0, 0, 0, 0, []), (.iload 4, 4, 0, 0, []), (.iconst 3, 3, 0, 0, []), (.iadd, 0, 0, 0, []), (.iaload, 0, 0, 0, []), (.i2b, 0, 0, 0, []), (.invokestatic 70, 4, 0, 0, [])]
def blL_law_199 : List aIn := [(.istore 5, 5, 0, 0, []), (.aload_n 2, 2, 0, 0, []), (.aload_n 0, 0, 0, 0, []), (.iload 4, 4, 0, 0, []), (.iconst 1, 1, 0, 0, []), (.iadd, 0, 0, 0, []), (.iaload, 0, 0, 0, []), (.aload_n 0, 0, 0, 0, []), (.iload 4, 4, 0, 0, []), (.iconst 2, 2, 0, 0, []), (.iadd, 0, 0, 0, []), (.iaload, 0, 0, 0, []), (.aload_n 0, 0, 0, 0, []), (.iload 4, 4, 0, 0, []), (.iconst 3, 3, 0, 0, []), (.iadd, 0, 0, 0, []), (.iaload, 0, 0, 0, []), (.i2b, 0, 0, 0, []), (.invokevirtual 73, 4, 0, 0, [])]
def blL_law_224 : List aIn := [(.aload_n 2, 2, 0, 0, []), (.invokevirtual 66, 1, 0, 0, [])]
def blL_law_228 : List aIn := [(.iload 5, 5, 0, 0, []), (.if_icmp .eq 5, 235, 0, 0, [])]
def blL_law_233 : List aIn := [(.iconst 0, 0, 0, 0, []), (.ireturn, 0, 0, 0, [])]
def blL_law_235 : List aIn := [(.goto 610, 845, 0, 0, [])]
def blL_law_238 : List aIn := [(.aload_n 1, 1, 0, 0, []), (.aload_n 0, 0, 0, 0, []), (.iload 4, 4, 0, 0, []), (.iconst 1, 1, 0, 0, []), (.iadd, 0, 0, 0, []), (.iaload, 0, 0, 0, []), (.aload_n 0, 0, 0, 0, []), (.iload 4, 4, 0, 0, []), (.iconst 2, 2, 0, 0, []), (.iadd, 0, 0, 0, []), (.iaload, 0, 0, 0, []), (.aload_n 3, 3, 0, 0, []), (.invokestatic 74, 4, 0, 0, [])]
def blL_law_255 : List aIn := [(.istore 5, 5, 0, 0, []), (.aload_n 2, 2, 0, 0, []), (.aload_n 0, 0, 0, 0, []), (.iload 4, 4, 0, 0, []), (.iconst 1, 1, 0, 0, []), (.iadd, 0, 0, 0, []), (.iaload, 0, 0, 0, []), (.aload_n 0, 0, 0, 0, []), (.iload 4, 4, 0, 0, []), (.iconst 2, 2, 0, 0, []), (.iadd, 0, 0, 0, []), (.iaload, 0, 0, 0, []), (.invokevirtual 77, 3, 0, 0, [])]
def blL_law_273 : List aIn := [(.istore 6, 6, 0, 0, []), (.aload_n 2, 2, 0, 0, []), (.invokevirtual 66, 1, 0, 0, [])]
def blL_law_279 : List aIn := [(.iload 5, 5, 0, 0, []), (.if_icmp .eq 5, 286, 0, 0, [])]
def blL_law_284 : List aIn := [(.iconst 0, 0, 0, 0, []), (.ireturn, 0, 0, 0, [])]
def blL_law_286 : List aIn := [(.iload 5, 5, 0, 0, []), (.ifCond .ne 15, 303, 0, 0, [])]
def blL_law_291 : List aIn := [(.aload_n 3, 3, 0, 0, []), (.iconst 0, 0, 0, 0, []), (.laload, 0, 0, 0, []), (.iload 6, 6, 0, 0, []), (.i2l, 0, 0, 0, []), (.lcmp, 0, 0, 0, []), (.ifCond .eq 5, 303, 0, 0, [])]
def blL_law_301 : List aIn := [(.iconst 0, 0, 0, 0, []), (.ireturn, 0, 0, 0, [])]
def blL_law_303 : List aIn := [(.goto 542, 845, 0, 0, [])]
def blL_law_306 : List aIn := [(.aload_n 1, 1, 0, 0, []), (.aload_n 0, 0, 0, 0, []), (.iload 4, 4, 0, 0, []), (.iconst 1, 1, 0, 0, []), (.iadd, 0, 0, 0, []), (.iaload, 0, 0, 0, []), (.aload_n 3, 3, 0, 0, []), (.invokestatic 78, 3, 0, 0, [])]
def blL_law_317 : List aIn := [(.istore 5, 5, 0, 0, []), (.aload_n 2, 2, 0, 0, []), (.aload_n 0, 0, 0, 0, []), (.iload 4, 4, 0, 0, []), (.iconst 1, 1, 0, 0, []), (.iadd, 0, 0, 0, []), (.iaload, 0, 0, 0, []), (.invokevirtual 81, 2, 0, 0, [])]
def blL_law_329 : List aIn := [(.istore 6, 6, 0, 0, []), (.aload_n 2, 2, 0, 0, []), (.invokevirtual 66, 1, 0, 0, [])]
def blL_law_335 : List aIn := [(.iload 5, 5, 0, 0, []), (.if_icmp .eq 5, 342, 0, 0, [])]
def blL_law_340 : List aIn := [(.iconst 0, 0, 0, 0, []), (.ireturn, 0, 0, 0, [])]
def blL_law_342 : List aIn := [(.iload 5, 5, 0, 0, []), (.ifCond .ne 15, 359, 0, 0, [])]
def blL_law_347 : List aIn := [(.aload_n 3, 3, 0, 0, []), (.iconst 0, 0, 0, 0, []), (.laload, 0, 0, 0, []), (.iload 6, 6, 0, 0, []), (.i2l, 0, 0, 0, []), (.lcmp, 0, 0, 0, []), (.ifCond .eq 5, 359, 0, 0, [])]
def blL_law_357 : List aIn := [(.iconst 0, 0, 0, 0, []), (.ireturn, 0, 0, 0, [])]
def blL_law_359 : List aIn := [(.goto 486, 845, 0, 0, [])]
def blL_law_362 : List aIn := [(.aload_n 1, 1, 0, 0, []), (.aload_n 0, 0, 0, 0, []), (.iload 4, 4, 0, 0, []), (.iconst 1, 1, 0, 0, []), (.iadd, 0, 0, 0, []), (.iaload, 0, 0, 0, []), (.aload_n 0, 0, 0, 0, []), (.iload 4, 4, 0, 0, []), (.iconst 2, 2, 0, 0, []), (.iadd, 0, 0, 0, []), (.iaload, 0, 0, 0, []), (.aload_n 0, 0, 0, 0, []), (.iload 4, 4, 0, 0, []), (.iconst 3, 3, 0, 0, []), (.iadd, 0, 0, 0, []), (.iaload, 0, 0, 0, []), (.aload_n 0, 0, 0, 0, []), (.iload 4, 4, 0, 0, []), (.iconst 4, 4, 0, 0, []), (.iadd, 0, 0, 0, []), (.iaload, 0, 0, 0, []), (.aload_n 3, 3, 0, 0, []), (.invokestatic 82, 6, 0, 0, [])]
def blL_law_391 : List aIn := [(.istore 5, 5, 0, 0, []), (.aload_n 2, 2, 0, 0, []), (.aload_n 0, 0, 0, 0, []), (.iload 4, 4, 0, 0, []), (.iconst 1, 1, 0, 0, []), (.iadd, 0, 0, 0, []), (.iaload, 0, 0, 0, []), (.aload_n 0, 0, 0, 0, []), (.iload 4, 4, 0, 0, []), (.iconst 2, 2, 0, 0, []), (.iadd, 0, 0, 0, []), (.iaload, 0, 0, 0, []), (.aload_n 0, 0, 0, 0, []), (.iload 4, 4, 0, 0, []), (.iconst 3, 3, 0, 0, []), (.iadd, 0, 0, 0, []), (.iaload, 0, 0, 0, []), (.aload_n 0, 0, 0, 0, []), (.iload 4, 4, 0, 0, []), (.iconst 4, 4, 0, 0, []), (.iadd, 0, 0, 0, []), (.iaload, 0, 0, 0, []), (.invokevirtual 85, 5, 0, 0, [])]
def blL_law_421 : List aIn := [(.istore 6, 6, 0, 0, []), (.aload_n 2, 2, 0, 0, []), (.invokevirtual 66, 1, 0, 0, [])]
def blL_law_427 : List aIn := [(.iload 5, 5, 0, 0, []), (.if_icmp .eq 5, 434, 0, 0, [])]
def blL_law_432 : List aIn := [(.iconst 0, 0, 0, 0, []), (.ireturn, 0, 0, 0, [])]
def blL_law_434 : List aIn := [(.iload 5, 5, 0, 0, []), (.ifCond .ne 15, 451, 0, 0, [])]
def blL_law_439 : List aIn := [(.aload_n 3, 3, 0, 0, []), (.iconst 0, 0, 0, 0, []), (.laload, 0, 0, 0, []), (.iload 6, 6, 0, 0, []), (.i2l, 0, 0, 0, []), (.lcmp, 0, 0, 0, []), (.ifCond .eq 5, 451, 0, 0, [])]
def blL_law_449 : List aIn := [(.iconst 0, 0, 0, 0, []), (.ireturn, 0, 0, 0, [])]
def blL_law_451 : List aIn := [(.goto 394, 845, 0, 0, [])]
def blL_law_454 : List aIn := [(.aload_n 1, 1, 0, 0, []), (.aload_n 0, 0, 0, 0, []), (.iload 4, 4, 0, 0, []), (.iconst 1, 1, 0, 0, []), (.iadd, 0, 0, 0, []), (.iaload, 0, 0, 0, []), (.aload_n 0, 0, 0, 0, []), (.iload 4, 4, 0, 0, []), (.iconst 2, 2, 0, 0, []), (.iadd, 0, 0, 0, []), (.iaload, 0, 0, 0, []), (.aload_n 3, 3, 0, 0, []), (.invokestatic 86, 4, 0, 0, [])]
def blL_law_471 : List aIn := [(.istore 5, 5, 0, 0, []), (.aload_n 2, 2, 0, 0, []), (.aload_n 0, 0, 0, 0, []), (.iload 4, 4, 0, 0, []), (.iconst 1, 1, 0, 0, []), (.iadd, 0, 0, 0, []), (.iaload, 0, 0, 0, []), (.aload_n 0, 0, 0, 0, []), (.iload 4, 4, 0, 0, []), (.iconst 2, 2, 0, 0, []), (.iadd, 0, 0, 0, []), (.iaload, 0, 0, 0, []), (.invokevirtual 88, 3, 0, 0, [])]
def blL_law_489 : List aIn := [(.istore 6, 6, 0, 0, []), (.aload_n 2, 2, 0, 0, []), (.invokevirtual 66, 1, 0, 0, [])]
def blL_law_495 : List aIn := [(.iload 5, 5, 0, 0, []), (.if_icmp .eq 5, 502, 0, 0, [])]
def blL_law_500 : List aIn := [(.iconst 0, 0, 0, 0, []), (.ireturn, 0, 0, 0, [])]
def blL_law_502 : List aIn := [(.iload 5, 5, 0, 0, []), (.ifCond .ne 15, 519, 0, 0, [])]
def blL_law_507 : List aIn := [(.aload_n 3, 3, 0, 0, []), (.iconst 0, 0, 0, 0, []), (.laload, 0, 0, 0, []), (.iload 6, 6, 0, 0, []), (.i2l, 0, 0, 0, []), (.lcmp, 0, 0, 0, []), (.ifCond .eq 5, 519, 0, 0, [])]
def blL_law_517 : List aIn := [(.iconst 0, 0, 0, 0, []), (.ireturn, 0, 0, 0, [])]
def blL_law_519 : List aIn := [(.goto 326, 845, 0, 0, [])]
def blL_law_522 : List aIn := [(.aload_n 1, 1, 0, 0, []), (.aload_n 0, 0, 0, 0, []), (.iload 4, 4, 0, 0, []), (.iconst 1, 1, 0, 0, []), (.iadd, 0, 0, 0, []), (.iaload, 0, 0, 0, []), (.aload_n 3, 3, 0, 0, []), (.invokestatic 89, 3, 0, 0, [])]
def blL_law_533 : List aIn := [(.istore 5, 5, 0, 0, []), (.aload_n 2, 2, 0, 0, []), (.aload_n 0, 0, 0, 0, []), (.iload 4, 4, 0, 0, []), (.iconst 1, 1, 0, 0, []), (.iadd, 0, 0, 0, []), (.iaload, 0, 0, 0, []), (.invokevirtual 91, 2, 0, 0, [])]
def blL_law_545 : List aIn := [(.istore 6, 6, 0, 0, []), (.aload_n 2, 2, 0, 0, []), (.invokevirtual 66, 1, 0, 0, [])]
def blL_law_551 : List aIn := [(.iload 5, 5, 0, 0, []), (.if_icmp .eq 5, 558, 0, 0, [])]
def blL_law_556 : List aIn := [(.iconst 0, 0, 0, 0, []), (.ireturn, 0, 0, 0, [])]
def blL_law_558 : List aIn := [(.iload 5, 5, 0, 0, []), (.ifCond .ne 22, 582, 0, 0, [])]
def blL_law_563 : List aIn := [(.aload_n 3, 3, 0, 0, []), (.iconst 0, 0, 0, 0, []), (.laload, 0, 0, 0, []), (.iload 6, 6, 0, 0, []), (.ifCond .eq 7, 575, 0, 0, [])]
def blL_law_571 : List aIn := [(.lconst 1, 1, 0, 0, []), (.goto 4, 576, 0, 0, [])]
def blL_law_575 : List aIn := [(.lconst 0, 0, 0, 0, [])]
def blL_law_576 : List aIn := [(.lcmp, 0, 0, 0, []), (.ifCond .eq 5, 582, 0, 0, [])]
def blL_law_580 : List aIn := [(.iconst 0, 0, 0, 0, []), (.ireturn, 0, 0, 0, [])]
def blL_law_582 : List aIn := [(.goto 263, 845, 0, 0, [])]
def blL_law_585 : List aIn := [(.aload_n 1, 1, 0, 0, []), (.aload_n 0, 0, 0, 0, []), (.iload 4, 4, 0, 0, []), (.iconst 1, 1, 0, 0, []), (.iadd, 0, 0, 0, []), (.iaload, 0, 0, 0, []), (.aload_n 0, 0, 0, 0, []), (.iload 4, 4, 0, 0, []), (.iconst 2, 2, 0, 0, []), (.iadd, 0, 0, 0, []), (.iaload, 0, 0, 0, []), (.aload_n 3, 3, 0, 0, []), (.invokestatic 92, 4, 0, 0, [])]
def blL_law_602 : List aIn := [(.istore 5, 5, 0, 0, []), (.aload_n 2, 2, 0, 0, []), (.aload_n 0, 0, 0, 0, []), (.iload 4, 4, 0, 0, []), (.iconst 1, 1, 0, 0, []), (.iadd, 0, 0, 0, []), (.iaload, 0, 0, 0, []), (.aload_n 0, 0, 0, 0, []), (.iload 4, 4, 0, 0, []), (.iconst 2, 2, 0, 0, []), (.iadd, 0, 0, 0, []), (.iaload, 0, 0, 0, []), (.invokevirtual 94, 3, 0, 0, [])]
def blL_law_620 : List aIn := [(.istore 6, 6, 0, 0, []), (.aload_n 2, 2, 0, 0, []), (.invokevirtual 66, 1, 0, 0, [])]
def blL_law_626 : List aIn := [(.iload 5, 5, 0, 0, []), (.if_icmp .eq 5, 633, 0, 0, [])]
def blL_law_631 : List aIn := [(.iconst 0, 0, 0, 0, []), (.ireturn, 0, 0, 0, [])]
def blL_law_633 : List aIn := [(.iload 5, 5, 0, 0, []), (.ifCond .ne 15, 650, 0, 0, [])]
def blL_law_638 : List aIn := [(.aload_n 3, 3, 0, 0, []), (.iconst 0, 0, 0, 0, []), (.laload, 0, 0, 0, []), (.iload 6, 6, 0, 0, []), (.i2l, 0, 0, 0, []), (.lcmp, 0, 0, 0, []), (.ifCond .eq 5, 650, 0, 0, [])]
def blL_law_648 : List aIn := [(.iconst 0, 0, 0, 0, []), (.ireturn, 0, 0, 0, [])]
def blL_law_650 : List aIn := [(.goto 195, 845, 0, 0, [])]
def blL_law_653 : List aIn := [(.aload_n 1, 1, 0, 0, []), (.aload_n 0, 0, 0, 0, []), (.iload 4, 4, 0, 0, []), (.iconst 1, 1, 0, 0, []), (.iadd, 0, 0, 0, []), (.iaload, 0, 0, 0, []), (.aload_n 0, 0, 0, 0, []), (.iload 4, 4, 0, 0, []), (.iconst 2, 2, 0, 0, []), (.iadd, 0, 0, 0, []), (.iaload, 0, 0, 0, []), (.aload_n 3, 3, 0, 0, []), (.invokestatic 95, 4, 0, 0, [])]
def blL_law_670 : List aIn := [(.istore 5, 5, 0, 0, []), (.aload_n 2, 2, 0, 0, []), (.aload_n 0, 0, 0, 0, []), (.iload 4, 4, 0, 0, []), (.iconst 1, 1, 0, 0, []), (.iadd, 0, 0, 0, []), (.iaload, 0, 0, 0, []), (.aload_n 0, 0, 0, 0, []), (.iload 4, 4, 0, 0, []), (.iconst 2, 2, 0, 0, []), (.iadd, 0, 0, 0, []), (.iaload, 0, 0, 0, []), (.invokevirtual 97, 3, 0, 0, [])]
def blL_law_688 : List aIn := [(.istore 6, 6, 0, 0, []), (.aload_n 2, 2, 0, 0, []), (.invokevirtual 66, 1, 0, 0, [])]
def blL_law_694 : List aIn := [(.iload 5, 5, 0, 0, []), (.if_icmp .eq 5, 701, 0, 0, [])]
def blL_law_699 : List aIn := [(.iconst 0, 0, 0, 0, []), (.ireturn, 0, 0, 0, [])]
def blL_law_701 : List aIn := [(.iload 5, 5, 0, 0, []), (.ifCond .ne 15, 718, 0, 0, [])]
def blL_law_706 : List aIn := [(.aload_n 3, 3, 0, 0, []), (.iconst 0, 0, 0, 0, []), (.laload, 0, 0, 0, []), (.iload 6, 6, 0, 0, []), (.i2l, 0, 0, 0, []), (.lcmp, 0, 0, 0, []), (.ifCond .eq 5, 718, 0, 0, [])]
def blL_law_716 : List aIn := [(.iconst 0, 0, 0, 0, []), (.ireturn, 0, 0, 0, [])]
def blL_law_718 : List aIn := [(.goto 127, 845, 0, 0, [])]
def blL_law_721 : List aIn := [(.aload_n 1, 1, 0, 0, []), (.aload_n 0, 0, 0, 0, []), (.iload 4, 4, 0, 0, []), (.iconst 1, 1, 0, 0, []), (.iadd, 0, 0, 0, []), (.iaload, 0, 0, 0, []), (.aload_n 0, 0, 0, 0, []), (.iload 4, 4, 0, 0, []), (.iconst 2, 2, 0, 0, []), (.iadd, 0, 0, 0, []), (.iaload, 0, 0, 0, []), (.aload_n 3, 3, 0, 0, []), (.invokestatic 98, 4, 0, 0, [])]
def blL_law_738 : List aIn := [(.istore 5, 5, 0, 0, []), (.aload_n 2, 2, 0, 0, []), (.aload_n 0, 0, 0, 0, []), (.iload 4, 4, 0, 0, []), (.iconst 1, 1, 0, 0, []), (.iadd, 0, 0, 0, []), (.iaload, 0, 0, 0, []), (.aload_n 0, 0, 0, 0, []), (.iload 4, 4, 0, 0, []), (.iconst 2, 2, 0, 0, []), (.iadd, 0, 0, 0, []), (.iaload, 0, 0, 0, []), (.invokevirtual 100, 3, 0, 0, [])]
def blL_law_756 : List aIn := [(.istore 6, 6, 0, 0, []), (.aload_n 2, 2, 0, 0, []), (.invokevirtual 66, 1, 0, 0, [])]
def blL_law_762 : List aIn := [(.iload 5, 5, 0, 0, []), (.if_icmp .eq 5, 769, 0, 0, [])]
def blL_law_767 : List aIn := [(.iconst 0, 0, 0, 0, []), (.ireturn, 0, 0, 0, [])]
def blL_law_769 : List aIn := [(.iload 5, 5, 0, 0, []), (.ifCond .ne 15, 786, 0, 0, [])]
def blL_law_774 : List aIn := [(.aload_n 3, 3, 0, 0, []), (.iconst 0, 0, 0, 0, []), (.laload, 0, 0, 0, []), (.iload 6, 6, 0, 0, []), (.i2l, 0, 0, 0, []), (.lcmp, 0, 0, 0, []), (.ifCond .eq 5, 786, 0, 0, [])]
def blL_law_784 : List aIn := [(.iconst 0, 0, 0, 0, []), (.ireturn, 0, 0, 0, [])]
def blL_law_786 : List aIn := [(.goto 59, 845, 0, 0, [])]
def blL_law_789 : List aIn := [(.aload_n 1, 1, 0, 0, []), (.aload_n 0, 0, 0, 0, []), (.iload 4, 4, 0, 0, []), (.iconst 1, 1, 0, 0, []), (.iadd, 0, 0, 0, []), (.iaload, 0, 0, 0, []), (.aload_n 3, 3, 0, 0, []), (.invokestatic 101, 3, 0, 0, [])]
def blL_law_800 : List aIn := [(.istore 5, 5, 0, 0, []), (.aload_n 2, 2, 0, 0, []), (.aload_n 0, 0, 0, 0, []), (.iload 4, 4, 0, 0, []), (.iconst 1, 1, 0, 0, []), (.iadd, 0, 0, 0, []), (.iaload, 0, 0, 0, []), (.invokevirtual 103, 2, 0, 0, [])]
def blL_law_812 : List aIn := [(.istore 6, 6, 0, 0, []), (.aload_n 2, 2, 0, 0, []), (.invokevirtual 66, 1, 0, 0, [])]
def blL_law_818 : List aIn := [(.iload 5, 5, 0, 0, []), (.if_icmp .eq 5, 825, 0, 0, [])]
def blL_law_823 : List aIn := [(.iconst 0, 0, 0, 0, []), (.ireturn, 0, 0, 0, [])]
def blL_law_825 : List aIn := [(.iload 5, 5, 0, 0, []), (.ifCond .ne 15, 842, 0, 0, [])]
def blL_law_830 : List aIn := [(.aload_n 3, 3, 0, 0, []), (.iconst 0, 0, 0, 0, []), (.laload, 0, 0, 0, []), (.iload 6, 6, 0, 0, []), (.i2l, 0, 0, 0, []), (.lcmp, 0, 0, 0, []), (.ifCond .eq 5, 842, 0, 0, [])]
def blL_law_840 : List aIn := [(.iconst 0, 0, 0, 0, []), (.ireturn, 0, 0, 0, [])]
def blL_law_842 : List aIn := [(.goto 3, 845, 0, 0, [])]
def blL_law_845 : List aIn := [(.iinc 4 5, 4, 0, 0, []), (.goto (-825), 23, 0, 0, [])]
def blL_law_851 : List aIn := [(.iconst 1, 1, 0, 0, []), (.ireturn, 0, 0, 0, [])]
def bkL_law : List (Nat × List aIn) := [(0, blL_law_0), (7, blL_law_7), (15, blL_law_15), (23, blL_law_23), (32, blL_law_32), (96, blL_law_96), (119, blL_law_119), (143, blL_law_143), (149, blL_law_149), (154, blL_law_154), (156, blL_law_156), (161, blL_law_161), (171, blL_law_171), (173, blL_law_173), (176, blL_law_176), (199, blL_law_199), (224, blL_law_224), (228, blL_law_228), (233, blL_law_233), (235, blL_law_235), (238, blL_law_238), (255, blL_law_255), (273, blL_law_273), (279, blL_law_279), (284, blL_law_284), (286, blL_law_286), (291, blL_law_291), (301, blL_law_301), (303, blL_law_303), (306, blL_law_306), (317, blL_law_317), (329, blL_law_329), (335, blL_law_335), (340, blL_law_340), (342, blL_law_342), (347, blL_law_347), (357, blL_law_357), (359, blL_law_359), (362, blL_law_362), (391, blL_law_391), (421, blL_law_421), (427, blL_law_427), (432, blL_law_432), (434, blL_law_434), (439, blL_law_439), (449, blL_law_449), (451, blL_law_451), (454, blL_law_454), (471, blL_law_471), (489, blL_law_489), (495, blL_law_495), (500, blL_law_500), (502, blL_law_502), (507, blL_law_507), (517, blL_law_517), (519, blL_law_519), (522, blL_law_522), (533, blL_law_533), (545, blL_law_545), (551, blL_law_551), (556, blL_law_556), (558, blL_law_558), (563, blL_law_563), (571, blL_law_571), (575, blL_law_575), (576, blL_law_576), (580, blL_law_580), (582, blL_law_582), (585, blL_law_585), (602, blL_law_602), (620, blL_law_620), (626, blL_law_626), (631, blL_law_631), (633, blL_law_633), (638, blL_law_638), (648, blL_law_648), (650, blL_law_650), (653, blL_law_653), (670, blL_law_670), (688, blL_law_688), (694, blL_law_694), (699, blL_law_699), (701, blL_law_701), (706, blL_law_706), (716, blL_law_716), (718, blL_law_718), (721, blL_law_721), (738, blL_law_738), (756, blL_law_756), (762, blL_law_762), (767, blL_law_767), (769, blL_law_769), (774, blL_law_774), (784, blL_law_784), (786, blL_law_786), (789, blL_law_789), (800, blL_law_800), (812, blL_law_812), (818, blL_law_818), (823, blL_law_823), (825, blL_law_825), (830, blL_law_830), (840, blL_law_840), (842, blL_law_842), (845, blL_law_845), (851, blL_law_851)]
theorem bqL_law_0 : aLook bkL_law 0 = some blL_law_0 := rfl
theorem bqL_law_7 : aLook bkL_law 7 = some blL_law_7 := rfl
theorem bqL_law_15 : aLook bkL_law 15 = some blL_law_15 := rfl
theorem bqL_law_23 : aLook bkL_law 23 = some blL_law_23 := rfl
theorem bqL_law_32 : aLook bkL_law 32 = some blL_law_32 := rfl
theorem bqL_law_96 : aLook bkL_law 96 = some blL_law_96 := rfl
theorem bqL_law_119 : aLook bkL_law 119 = some blL_law_119 := rfl
theorem bqL_law_143 : aLook bkL_law 143 = some blL_law_143 := rfl
theorem bqL_law_149 : aLook bkL_law 149 = some blL_law_149 := rfl
theorem bqL_law_154 : aLook bkL_law 154 = some blL_law_154 := rfl
theorem bqL_law_156 : aLook bkL_law 156 = some blL_law_156 := rfl
theorem bqL_law_161 : aLook bkL_law 161 = some blL_law_161 := rfl
theorem bqL_law_171 : aLook bkL_law 171 = some blL_law_171 := rfl
theorem bqL_law_173 : aLook bkL_law 173 = some blL_law_173 := rfl
theorem bqL_law_176 : aLook bkL_law 176 = some blL_law_176 := rfl
theorem bqL_law_199 : aLook bkL_law 199 = some blL_law_199 := rfl
theorem bqL_law_224 : aLook bkL_law 224 = some blL_law_224 := rfl
theorem bqL_law_228 : aLook bkL_law 228 = some blL_law_228 := rfl
theorem bqL_law_233 : aLook bkL_law 233 = some blL_law_233 := rfl
theorem bqL_law_235 : aLook bkL_law 235 = some blL_law_235 := rfl
theorem bqL_law_238 : aLook bkL_law 238 = some blL_law_238 := rfl
theorem bqL_law_255 : aLook bkL_law 255 = some blL_law_255 := rfl
theorem bqL_law_273 : aLook bkL_law 273 = some blL_law_273 := rfl
theorem bqL_law_279 : aLook bkL_law 279 = some blL_law_279 := rfl
theorem bqL_law_284 : aLook bkL_law 284 = some blL_law_284 := rfl
theorem bqL_law_286 : aLook bkL_law 286 = some blL_law_286 := rfl
theorem bqL_law_291 : aLook bkL_law 291 = some blL_law_291 := rfl
theorem bqL_law_301 : aLook bkL_law 301 = some blL_law_301 := rfl
theorem bqL_law_303 : aLook bkL_law 303 = some blL_law_303 := rfl
theorem bqL_law_306 : aLook bkL_law 306 = some blL_law_306 := rfl
theorem bqL_law_317 : aLook bkL_law 317 = some blL_law_317 := rfl
theorem bqL_law_329 : aLook bkL_law 329 = some blL_law_329 := rfl
theorem bqL_law_335 : aLook bkL_law 335 = some blL_law_335 := rfl
theorem bqL_law_340 : aLook bkL_law 340 = some blL_law_340 := rfl
theorem bqL_law_342 : aLook bkL_law 342 = some blL_law_342 := rfl
theorem bqL_law_347 : aLook bkL_law 347 = some blL_law_347 := rfl
theorem bqL_law_357 : aLook bkL_law 357 = some blL_law_357 := rfl
theorem bqL_law_359 : aLook bkL_law 359 = some blL_law_359 := rfl
theorem bqL_law_362 : aLook bkL_law 362 = some blL_law_362 := rfl
theorem bqL_law_391 : aLook bkL_law 391 = some blL_law_391 := rfl
theorem bqL_law_421 : aLook bkL_law 421 = some blL_law_421 := rfl
theorem bqL_law_427 : aLook bkL_law 427 = some blL_law_427 := rfl
theorem bqL_law_432 : aLook bkL_law 432 = some blL_law_432 := rfl
theorem bqL_law_434 : aLook bkL_law 434 = some blL_law_434 := rfl
theorem bqL_law_439 : aLook bkL_law 439 = some blL_law_439 := rfl
theorem bqL_law_449 : aLook bkL_law 449 = some blL_law_449 := rfl
theorem bqL_law_451 : aLook bkL_law 451 = some blL_law_451 := rfl
theorem bqL_law_454 : aLook bkL_law 454 = some blL_law_454 := rfl
theorem bqL_law_471 : aLook bkL_law 471 = some blL_law_471 := rfl
theorem bqL_law_489 : aLook bkL_law 489 = some blL_law_489 := rfl
theorem bqL_law_495 : aLook bkL_law 495 = some blL_law_495 := rfl
theorem bqL_law_500 : aLook bkL_law 500 = some blL_law_500 := rfl
theorem bqL_law_502 : aLook bkL_law 502 = some blL_law_502 := rfl
theorem bqL_law_507 : aLook bkL_law 507 = some blL_law_507 := rfl
theorem bqL_law_517 : aLook bkL_law 517 = some blL_law_517 := rfl
theorem bqL_law_519 : aLook bkL_law 519 = some blL_law_519 := rfl
theorem bqL_law_522 : aLook bkL_law 522 = some blL_law_522 := rfl
theorem bqL_law_533 : aLook bkL_law 533 = some blL_law_533 := rfl
theorem bqL_law_545 : aLook bkL_law 545 = some blL_law_545 := rfl
theorem bqL_law_551 : aLook bkL_law 551 = some blL_law_551 := rfl
theorem bqL_law_556 : aLook bkL_law 556 = some blL_law_556 := rfl
theorem bqL_law_558 : aLook bkL_law 558 = some blL_law_558 := rfl
theorem bqL_law_563 : aLook bkL_law 563 = some blL_law_563 := rfl
theorem bqL_law_571 : aLook bkL_law 571 = some blL_law_571 := rfl
theorem bqL_law_575 : aLook bkL_law 575 = some blL_law_575 := rfl
theorem bqL_law_576 : aLook bkL_law 576 = some blL_law_576 := rfl
theorem bqL_law_580 : aLook bkL_law 580 = some blL_law_580 := rfl
theorem bqL_law_582 : aLook bkL_law 582 = some blL_law_582 := rfl
theorem bqL_law_585 : aLook bkL_law 585 = some blL_law_585 := rfl
theorem bqL_law_602 : aLook bkL_law 602 = some blL_law_602 := rfl
theorem bqL_law_620 : aLook bkL_law 620 = some blL_law_620 := rfl
theorem bqL_law_626 : aLook bkL_law 626 = some blL_law_626 := rfl
theorem bqL_law_631 : aLook bkL_law 631 = some blL_law_631 := rfl
theorem bqL_law_633 : aLook bkL_law 633 = some blL_law_633 := rfl
theorem bqL_law_638 : aLook bkL_law 638 = some blL_law_638 := rfl
theorem bqL_law_648 : aLook bkL_law 648 = some blL_law_648 := rfl
theorem bqL_law_650 : aLook bkL_law 650 = some blL_law_650 := rfl
theorem bqL_law_653 : aLook bkL_law 653 = some blL_law_653 := rfl
theorem bqL_law_670 : aLook bkL_law 670 = some blL_law_670 := rfl
theorem bqL_law_688 : aLook bkL_law 688 = some blL_law_688 := rfl
theorem bqL_law_694 : aLook bkL_law 694 = some blL_law_694 := rfl
theorem bqL_law_699 : aLook bkL_law 699 = some blL_law_699 := rfl
theorem bqL_law_701 : aLook bkL_law 701 = some blL_law_701 := rfl
theorem bqL_law_706 : aLook bkL_law 706 = some blL_law_706 := rfl
theorem bqL_law_716 : aLook bkL_law 716 = some blL_law_716 := rfl
theorem bqL_law_718 : aLook bkL_law 718 = some blL_law_718 := rfl
theorem bqL_law_721 : aLook bkL_law 721 = some blL_law_721 := rfl
theorem bqL_law_738 : aLook bkL_law 738 = some blL_law_738 := rfl
theorem bqL_law_756 : aLook bkL_law 756 = some blL_law_756 := rfl
theorem bqL_law_762 : aLook bkL_law 762 = some blL_law_762 := rfl
theorem bqL_law_767 : aLook bkL_law 767 = some blL_law_767 := rfl
theorem bqL_law_769 : aLook bkL_law 769 = some blL_law_769 := rfl
theorem bqL_law_774 : aLook bkL_law 774 = some blL_law_774 := rfl
theorem bqL_law_784 : aLook bkL_law 784 = some blL_law_784 := rfl
theorem bqL_law_786 : aLook bkL_law 786 = some blL_law_786 := rfl
theorem bqL_law_789 : aLook bkL_law 789 = some blL_law_789 := rfl
theorem bqL_law_800 : aLook bkL_law 800 = some blL_law_800 := rfl
theorem bqL_law_812 : aLook bkL_law 812 = some blL_law_812 := rfl
theorem bqL_law_818 : aLook bkL_law 818 = some blL_law_818 := rfl
theorem bqL_law_823 : aLook bkL_law 823 = some blL_law_823 := rfl
theorem bqL_law_825 : aLook bkL_law 825 = some blL_law_825 := rfl
theorem bqL_law_830 : aLook bkL_law 830 = some blL_law_830 := rfl
theorem bqL_law_840 : aLook bkL_law 840 = some blL_law_840 := rfl
theorem bqL_law_842 : aLook bkL_law 842 = some blL_law_842 := rfl
theorem bqL_law_845 : aLook bkL_law 845 = some blL_law_845 := rfl
theorem bqL_law_851 : aLook bkL_law 851 = some blL_law_851 := rfl
theorem bcL_law_0 : aChk code 7 lkL 0 blL_law_0 = true := by decide +kernel
theorem bcL_law_7 : aChk code 7 lkL 7 blL_law_7 = true := by decide +kernel
theorem bcL_law_15 : aChk code 7 lkL 15 blL_law_15 = true := by decide +kernel
theorem bcL_law_23 : aChk code 7 lkL 23 blL_law_23 = true := by decide +kernel
theorem bcL_law_32 : aChk code 7 lkL 32 blL_law_32 = true := by decide +kernel
theorem bcL_law_96 : aChk code 7 lkL 96 blL_law_96 = true := by decide +kernel
theorem bcL_law_119 : aChk code 7 lkL 119 blL_law_119 = true := by decide +kernel
theorem bcL_law_143 : aChk code 7 lkL 143 blL_law_143 = true := by decide +kernel
theorem bcL_law_149 : aChk code 7 lkL 149 blL_law_149 = true := by decide +kernel
theorem bcL_law_154 : aChk code 7 lkL 154 blL_law_154 = true := by decide +kernel
theorem bcL_law_156 : aChk code 7 lkL 156 blL_law_156 = true := by decide +kernel
theorem bcL_law_161 : aChk code 7 lkL 161 blL_law_161 = true := by decide +kernel
theorem bcL_law_171 : aChk code 7 lkL 171 blL_law_171 = true := by decide +kernel
theorem bcL_law_173 : aChk code 7 lkL 173 blL_law_173 = true := by decide +kernel
theorem bcL_law_176 : aChk code 7 lkL 176 blL_law_176 = true := by decide +kernel
theorem bcL_law_199 : aChk code 7 lkL 199 blL_law_199 = true := by decide +kernel
theorem bcL_law_224 : aChk code 7 lkL 224 blL_law_224 = true := by decide +kernel
theorem bcL_law_228 : aChk code 7 lkL 228 blL_law_228 = true := by decide +kernel
theorem bcL_law_233 : aChk code 7 lkL 233 blL_law_233 = true := by decide +kernel
theorem bcL_law_235 : aChk code 7 lkL 235 blL_law_235 = true := by decide +kernel
theorem bcL_law_238 : aChk code 7 lkL 238 blL_law_238 = true := by decide +kernel
theorem bcL_law_255 : aChk code 7 lkL 255 blL_law_255 = true := by decide +kernel
theorem bcL_law_273 : aChk code 7 lkL 273 blL_law_273 = true := by decide +kernel
theorem bcL_law_279 : aChk code 7 lkL 279 blL_law_279 = true := by decide +kernel
theorem bcL_law_284 : aChk code 7 lkL 284 blL_law_284 = true := by decide +kernel
theorem bcL_law_286 : aChk code 7 lkL 286 blL_law_286 = true := by decide +kernel
theorem bcL_law_291 : aChk code 7 lkL 291 blL_law_291 = true := by decide +kernel
theorem bcL_law_301 : aChk code 7 lkL 301 blL_law_301 = true := by decide +kernel
theorem bcL_law_303 : aChk code 7 lkL 303 blL_law_303 = true := by decide +kernel
theorem bcL_law_306 : aChk code 7 lkL 306 blL_law_306 = true := by decide +kernel
theorem bcL_law_317 : aChk code 7 lkL 317 blL_law_317 = true := by decide +kernel
theorem bcL_law_329 : aChk code 7 lkL 329 blL_law_329 = true := by decide +kernel
theorem bcL_law_335 : aChk code 7 lkL 335 blL_law_335 = true := by decide +kernel
theorem bcL_law_340 : aChk code 7 lkL 340 blL_law_340 = true := by decide +kernel
theorem bcL_law_342 : aChk code 7 lkL 342 blL_law_342 = true := by decide +kernel
theorem bcL_law_347 : aChk code 7 lkL 347 blL_law_347 = true := by decide +kernel
theorem bcL_law_357 : aChk code 7 lkL 357 blL_law_357 = true := by decide +kernel
theorem bcL_law_359 : aChk code 7 lkL 359 blL_law_359 = true := by decide +kernel
theorem bcL_law_362 : aChk code 7 lkL 362 blL_law_362 = true := by decide +kernel
theorem bcL_law_391 : aChk code 7 lkL 391 blL_law_391 = true := by decide +kernel
theorem bcL_law_421 : aChk code 7 lkL 421 blL_law_421 = true := by decide +kernel
theorem bcL_law_427 : aChk code 7 lkL 427 blL_law_427 = true := by decide +kernel
theorem bcL_law_432 : aChk code 7 lkL 432 blL_law_432 = true := by decide +kernel
theorem bcL_law_434 : aChk code 7 lkL 434 blL_law_434 = true := by decide +kernel
theorem bcL_law_439 : aChk code 7 lkL 439 blL_law_439 = true := by decide +kernel
theorem bcL_law_449 : aChk code 7 lkL 449 blL_law_449 = true := by decide +kernel
theorem bcL_law_451 : aChk code 7 lkL 451 blL_law_451 = true := by decide +kernel
theorem bcL_law_454 : aChk code 7 lkL 454 blL_law_454 = true := by decide +kernel
theorem bcL_law_471 : aChk code 7 lkL 471 blL_law_471 = true := by decide +kernel
theorem bcL_law_489 : aChk code 7 lkL 489 blL_law_489 = true := by decide +kernel
theorem bcL_law_495 : aChk code 7 lkL 495 blL_law_495 = true := by decide +kernel
theorem bcL_law_500 : aChk code 7 lkL 500 blL_law_500 = true := by decide +kernel
theorem bcL_law_502 : aChk code 7 lkL 502 blL_law_502 = true := by decide +kernel
theorem bcL_law_507 : aChk code 7 lkL 507 blL_law_507 = true := by decide +kernel
theorem bcL_law_517 : aChk code 7 lkL 517 blL_law_517 = true := by decide +kernel
theorem bcL_law_519 : aChk code 7 lkL 519 blL_law_519 = true := by decide +kernel
theorem bcL_law_522 : aChk code 7 lkL 522 blL_law_522 = true := by decide +kernel
theorem bcL_law_533 : aChk code 7 lkL 533 blL_law_533 = true := by decide +kernel
theorem bcL_law_545 : aChk code 7 lkL 545 blL_law_545 = true := by decide +kernel
theorem bcL_law_551 : aChk code 7 lkL 551 blL_law_551 = true := by decide +kernel
theorem bcL_law_556 : aChk code 7 lkL 556 blL_law_556 = true := by decide +kernel
theorem bcL_law_558 : aChk code 7 lkL 558 blL_law_558 = true := by decide +kernel
theorem bcL_law_563 : aChk code 7 lkL 563 blL_law_563 = true := by decide +kernel
theorem bcL_law_571 : aChk code 7 lkL 571 blL_law_571 = true := by decide +kernel
theorem bcL_law_575 : aChk code 7 lkL 575 blL_law_575 = true := by decide +kernel
theorem bcL_law_576 : aChk code 7 lkL 576 blL_law_576 = true := by decide +kernel
theorem bcL_law_580 : aChk code 7 lkL 580 blL_law_580 = true := by decide +kernel
theorem bcL_law_582 : aChk code 7 lkL 582 blL_law_582 = true := by decide +kernel
theorem bcL_law_585 : aChk code 7 lkL 585 blL_law_585 = true := by decide +kernel
theorem bcL_law_602 : aChk code 7 lkL 602 blL_law_602 = true := by decide +kernel
theorem bcL_law_620 : aChk code 7 lkL 620 blL_law_620 = true := by decide +kernel
theorem bcL_law_626 : aChk code 7 lkL 626 blL_law_626 = true := by decide +kernel
theorem bcL_law_631 : aChk code 7 lkL 631 blL_law_631 = true := by decide +kernel
theorem bcL_law_633 : aChk code 7 lkL 633 blL_law_633 = true := by decide +kernel
theorem bcL_law_638 : aChk code 7 lkL 638 blL_law_638 = true := by decide +kernel
theorem bcL_law_648 : aChk code 7 lkL 648 blL_law_648 = true := by decide +kernel
theorem bcL_law_650 : aChk code 7 lkL 650 blL_law_650 = true := by decide +kernel
theorem bcL_law_653 : aChk code 7 lkL 653 blL_law_653 = true := by decide +kernel
theorem bcL_law_670 : aChk code 7 lkL 670 blL_law_670 = true := by decide +kernel
theorem bcL_law_688 : aChk code 7 lkL 688 blL_law_688 = true := by decide +kernel
theorem bcL_law_694 : aChk code 7 lkL 694 blL_law_694 = true := by decide +kernel
theorem bcL_law_699 : aChk code 7 lkL 699 blL_law_699 = true := by decide +kernel
theorem bcL_law_701 : aChk code 7 lkL 701 blL_law_701 = true := by decide +kernel
theorem bcL_law_706 : aChk code 7 lkL 706 blL_law_706 = true := by decide +kernel
theorem bcL_law_716 : aChk code 7 lkL 716 blL_law_716 = true := by decide +kernel
theorem bcL_law_718 : aChk code 7 lkL 718 blL_law_718 = true := by decide +kernel
theorem bcL_law_721 : aChk code 7 lkL 721 blL_law_721 = true := by decide +kernel
theorem bcL_law_738 : aChk code 7 lkL 738 blL_law_738 = true := by decide +kernel
theorem bcL_law_756 : aChk code 7 lkL 756 blL_law_756 = true := by decide +kernel
theorem bcL_law_762 : aChk code 7 lkL 762 blL_law_762 = true := by decide +kernel
theorem bcL_law_767 : aChk code 7 lkL 767 blL_law_767 = true := by decide +kernel
theorem bcL_law_769 : aChk code 7 lkL 769 blL_law_769 = true := by decide +kernel
theorem bcL_law_774 : aChk code 7 lkL 774 blL_law_774 = true := by decide +kernel
theorem bcL_law_784 : aChk code 7 lkL 784 blL_law_784 = true := by decide +kernel
theorem bcL_law_786 : aChk code 7 lkL 786 blL_law_786 = true := by decide +kernel
theorem bcL_law_789 : aChk code 7 lkL 789 blL_law_789 = true := by decide +kernel
theorem bcL_law_800 : aChk code 7 lkL 800 blL_law_800 = true := by decide +kernel
theorem bcL_law_812 : aChk code 7 lkL 812 blL_law_812 = true := by decide +kernel
theorem bcL_law_818 : aChk code 7 lkL 818 blL_law_818 = true := by decide +kernel
theorem bcL_law_823 : aChk code 7 lkL 823 blL_law_823 = true := by decide +kernel
theorem bcL_law_825 : aChk code 7 lkL 825 blL_law_825 = true := by decide +kernel
theorem bcL_law_830 : aChk code 7 lkL 830 blL_law_830 = true := by decide +kernel
theorem bcL_law_840 : aChk code 7 lkL 840 blL_law_840 = true := by decide +kernel
theorem bcL_law_842 : aChk code 7 lkL 842 blL_law_842 = true := by decide +kernel
theorem bcL_law_845 : aChk code 7 lkL 845 blL_law_845 = true := by decide +kernel
theorem bcL_law_851 : aChk code 7 lkL 851 blL_law_851 = true := by decide +kernel
theorem boL_law : ∀ pc is, aLook bkL_law pc = some is → aBlk RL code 7 false pc is := aBks_ok (lk := lkL) lkL_ok (by simp only [bkL_law, List.all_cons, List.all_nil, Bool.and_true, bcL_law_0, bcL_law_7, bcL_law_15, bcL_law_23, bcL_law_32, bcL_law_96, bcL_law_119, bcL_law_143, bcL_law_149, bcL_law_154, bcL_law_156, bcL_law_161, bcL_law_171, bcL_law_173, bcL_law_176, bcL_law_199, bcL_law_224, bcL_law_228, bcL_law_233, bcL_law_235, bcL_law_238, bcL_law_255, bcL_law_273, bcL_law_279, bcL_law_284, bcL_law_286, bcL_law_291, bcL_law_301, bcL_law_303, bcL_law_306, bcL_law_317, bcL_law_329, bcL_law_335, bcL_law_340, bcL_law_342, bcL_law_347, bcL_law_357, bcL_law_359, bcL_law_362, bcL_law_391, bcL_law_421, bcL_law_427, bcL_law_432, bcL_law_434, bcL_law_439, bcL_law_449, bcL_law_451, bcL_law_454, bcL_law_471, bcL_law_489, bcL_law_495, bcL_law_500, bcL_law_502, bcL_law_507, bcL_law_517, bcL_law_519, bcL_law_522, bcL_law_533, bcL_law_545, bcL_law_551, bcL_law_556, bcL_law_558, bcL_law_563, bcL_law_571, bcL_law_575, bcL_law_576, bcL_law_580, bcL_law_582, bcL_law_585, bcL_law_602, bcL_law_620, bcL_law_626, bcL_law_631, bcL_law_633, bcL_law_638, bcL_law_648, bcL_law_650, bcL_law_653, bcL_law_670, bcL_law_688, bcL_law_694, bcL_law_699, bcL_law_701, bcL_law_706, bcL_law_716, bcL_law_718, bcL_law_721, bcL_law_738, bcL_law_756, bcL_law_762, bcL_law_767, bcL_law_769, bcL_law_774, bcL_law_784, bcL_law_786, bcL_law_789, bcL_law_800, bcL_law_812, bcL_law_818, bcL_law_823, bcL_law_825, bcL_law_830, bcL_law_840, bcL_law_842, bcL_law_845, bcL_law_851])
