/-! code of PackedDecimals$Arithmetic (printed by gen.py) -/
def blX0_init_0 : List aIn := [(.aload_n 0, 0, 0, 0, []), (.invokespecial 1, 1, 0, 0, [])]
def blX0_init_4 : List aIn := [(.aload_n 0, 0, 0, 0, []), (.new 7, 4, 2, 0, [2, 0]), (.dup, 0, 0, 0, []), (.invokespecial 9, 1, 0, 0, [])]
def blX0_init_12 : List aIn := [(.putfield 10, 2, 0, 2, []), (.aload_n 0, 0, 0, 0, []), (.new 7, 4, 2, 0, [2, 0]), (.dup, 0, 0, 0, []), (.invokespecial 9, 1, 0, 0, [])]
def blX0_init_23 : List aIn := [(.putfield 16, 2, 1, 2, []), (.aload_n 0, 0, 0, 0, []), (.new 7, 4, 2, 0, [2, 0]), (.dup, 0, 0, 0, []), (.invokespecial 9, 1, 0, 0, [])]
def blX0_init_34 : List aIn := [(.putfield 19, 2, 2, 2, []), (.aload_n 0, 0, 0, 0, []), (.new 7, 4, 2, 0, [2, 0]), (.dup, 0, 0, 0, []), (.invokespecial 9, 1, 0, 0, [])]
def blX0_init_45 : List aIn := [(.putfield 22, 2, 3, 2, []), (.return_, 0, 0, 0, [])]
def bkX0_init : List (Nat × List aIn) := [(0, blX0_init_0), (4, blX0_init_4), (12, blX0_init_12), (23, blX0_init_23), (34, blX0_init_34), (45, blX0_init_45)]
theorem bqX0_init_0 : aLook bkX0_init 0 = some blX0_init_0 := rfl
theorem bqX0_init_4 : aLook bkX0_init 4 = some blX0_init_4 := rfl
theorem bqX0_init_12 : aLook bkX0_init 12 = some blX0_init_12 := rfl
theorem bqX0_init_23 : aLook bkX0_init 23 = some blX0_init_23 := rfl
theorem bqX0_init_34 : aLook bkX0_init 34 = some blX0_init_34 := rfl
theorem bqX0_init_45 : aLook bkX0_init 45 = some blX0_init_45 := rfl
theorem boX0_init : ∀ pc is, aLook bkX0_init pc = some is → aBlk RX0 cX0_init 1 true pc is := aBks_ok (lk := lkX0i) lkX0i_ok (by decide +kernel)
def blX0_add_0 : List aIn := [(.aload_n 0, 0, 0, 0, []), (.aload_n 1, 1, 0, 0, []), (.aload_n 2, 2, 0, 0, []), (.invokevirtual 25, 3, 0, 0, [])]
def blX0_add_6 : List aIn := [(.aload 4, 4, 0, 0, []), (.getfield 29, 3, 2, 2, []), (.aload_n 1, 1, 0, 0, []), (.getfield 29, 3, 2, 2, []), (.aload_n 2, 2, 0, 0, []), (.getfield 29, 3, 2, 2, []), (.invokevirtual 34, 3, 0, 0, [])]
def blX0_add_22 : List aIn := [(.aload_n 1, 1, 0, 0, []), (.getfield 38, 3, 0, 1, []), (.iload_n 3, 3, 0, 0, []), (.if_icmp .ne 30, 57, 0, 0, [])]
def blX0_add_30 : List aIn := [(.aload_n 0, 0, 0, 0, []), (.getfield 10, 2, 0, 2, []), (.aload_n 0, 0, 0, 0, []), (.getfield 16, 2, 1, 2, []), (.invokevirtual 42, 2, 0, 0, [])]
def blX0_add_41 : List aIn := [(.aload 4, 4, 0, 0, []), (.aload_n 0, 0, 0, 0, []), (.getfield 10, 2, 0, 2, []), (.aload_n 1, 1, 0, 0, []), (.getfield 38, 3, 0, 1, []), (.invokevirtual 46, 3, 0, 0, [])]
def blX0_add_54 : List aIn := [(.goto 65, 119, 0, 0, [])]
def blX0_add_57 : List aIn := [(.aload_n 0, 0, 0, 0, []), (.getfield 10, 2, 0, 2, []), (.aload_n 0, 0, 0, 0, []), (.getfield 16, 2, 1, 2, []), (.invokevirtual 50, 2, 0, 0, [])]
def blX0_add_68 : List aIn := [(.ifCond .ge 27, 95, 0, 0, [])]
def blX0_add_71 : List aIn := [(.aload_n 0, 0, 0, 0, []), (.getfield 16, 2, 1, 2, []), (.aload_n 0, 0, 0, 0, []), (.getfield 10, 2, 0, 2, []), (.invokevirtual 54, 2, 0, 0, [])]
def blX0_add_82 : List aIn := [(.aload 4, 4, 0, 0, []), (.aload_n 0, 0, 0, 0, []), (.getfield 16, 2, 1, 2, []), (.iload_n 3, 3, 0, 0, []), (.invokevirtual 46, 3, 0, 0, [])]
def blX0_add_92 : List aIn := [(.goto 27, 119, 0, 0, [])]
def blX0_add_95 : List aIn := [(.aload_n 0, 0, 0, 0, []), (.getfield 10, 2, 0, 2, []), (.aload_n 0, 0, 0, 0, []), (.getfield 16, 2, 1, 2, []), (.invokevirtual 54, 2, 0, 0, [])]
def blX0_add_106 : List aIn := [(.aload 4, 4, 0, 0, []), (.aload_n 0, 0, 0, 0, []), (.getfield 10, 2, 0, 2, []), (.aload_n 1, 1, 0, 0, []), (.getfield 38, 3, 0, 1, []), (.invokevirtual 46, 3, 0, 0, [])]
def blX0_add_119 : List aIn := [(.return_, 0, 0, 0, [])]
def bkX0_add : List (Nat × List aIn) := [(0, blX0_add_0), (6, blX0_add_6), (22, blX0_add_22), (30, blX0_add_30), (41, blX0_add_41), (54, blX0_add_54), (57, blX0_add_57), (68, blX0_add_68), (71, blX0_add_71), (82, blX0_add_82), (92, blX0_add_92), (95, blX0_add_95), (106, blX0_add_106), (119, blX0_add_119)]
theorem bqX0_add_0 : aLook bkX0_add 0 = some blX0_add_0 := rfl
theorem bqX0_add_6 : aLook bkX0_add 6 = some blX0_add_6 := rfl
theorem bqX0_add_22 : aLook bkX0_add 22 = some blX0_add_22 := rfl
theorem bqX0_add_30 : aLook bkX0_add 30 = some blX0_add_30 := rfl
theorem bqX0_add_41 : aLook bkX0_add 41 = some blX0_add_41 := rfl
theorem bqX0_add_54 : aLook bkX0_add 54 = some blX0_add_54 := rfl
theorem bqX0_add_57 : aLook bkX0_add 57 = some blX0_add_57 := rfl
theorem bqX0_add_68 : aLook bkX0_add 68 = some blX0_add_68 := rfl
theorem bqX0_add_71 : aLook bkX0_add 71 = some blX0_add_71 := rfl
theorem bqX0_add_82 : aLook bkX0_add 82 = some blX0_add_82 := rfl
theorem bqX0_add_92 : aLook bkX0_add 92 = some blX0_add_92 := rfl
theorem bqX0_add_95 : aLook bkX0_add 95 = some blX0_add_95 := rfl
theorem bqX0_add_106 : aLook bkX0_add 106 = some blX0_add_106 := rfl
theorem bqX0_add_119 : aLook bkX0_add 119 = some blX0_add_119 := rfl
theorem boX0_add : ∀ pc is, aLook bkX0_add pc = some is → aBlk RX0 cX0_add 5 false pc is := aBks_ok (lk := lkX0) lkX0_ok (by decide +kernel)
def blX0_multiply_0 : List aIn := [(.aload_n 3, 3, 0, 0, []), (.getfield 57, 3, 1, 2, []), (.aload_n 1, 1, 0, 0, []), (.getfield 57, 3, 1, 2, []), (.aload_n 2, 2, 0, 0, []), (.getfield 57, 3, 1, 2, []), (.invokevirtual 34, 3, 0, 0, [])]
def blX0_multiply_15 : List aIn := [(.aload_n 3, 3, 0, 0, []), (.getfield 29, 3, 2, 2, []), (.aload_n 1, 1, 0, 0, []), (.getfield 29, 3, 2, 2, []), (.aload_n 2, 2, 0, 0, []), (.getfield 29, 3, 2, 2, []), (.invokevirtual 34, 3, 0, 0, [])]
def blX0_multiply_30 : List aIn := [(.aload_n 3, 3, 0, 0, []), (.aload_n 1, 1, 0, 0, []), (.getfield 38, 3, 0, 1, []), (.aload_n 2, 2, 0, 0, []), (.getfield 38, 3, 0, 1, []), (.if_icmp .eq 7, 46, 0, 0, [])]
def blX0_multiply_42 : List aIn := [(.iconst 1, 1, 0, 0, []), (.goto 4, 47, 0, 0, [])]
def blX0_multiply_46 : List aIn := [(.iconst 0, 0, 0, 0, [])]
def blX0_multiply_47 : List aIn := [(.invokevirtual 60, 2, 0, 0, [])]
def blX0_multiply_50 : List aIn := [(.return_, 0, 0, 0, [])]
def bkX0_multiply : List (Nat × List aIn) := [(0, blX0_multiply_0), (15, blX0_multiply_15), (30, blX0_multiply_30), (42, blX0_multiply_42), (46, blX0_multiply_46), (47, blX0_multiply_47), (50, blX0_multiply_50)]
theorem bqX0_multiply_0 : aLook bkX0_multiply 0 = some blX0_multiply_0 := rfl
theorem bqX0_multiply_15 : aLook bkX0_multiply 15 = some blX0_multiply_15 := rfl
theorem bqX0_multiply_30 : aLook bkX0_multiply 30 = some blX0_multiply_30 := rfl
theorem bqX0_multiply_42 : aLook bkX0_multiply 42 = some blX0_multiply_42 := rfl
theorem bqX0_multiply_46 : aLook bkX0_multiply 46 = some blX0_multiply_46 := rfl
theorem bqX0_multiply_47 : aLook bkX0_multiply 47 = some blX0_multiply_47 := rfl
theorem bqX0_multiply_50 : aLook bkX0_multiply 50 = some blX0_multiply_50 := rfl
theorem boX0_multiply : ∀ pc is, aLook bkX0_multiply pc = some is → aBlk RX0 cX0_multiply 4 false pc is := aBks_ok (lk := lkX0) lkX0_ok (by decide +kernel)
def blX0_divide_0 : List aIn := [(.aload_n 2, 2, 0, 0, []), (.getfield 57, 3, 1, 2, []), (.invokevirtual 64, 1, 0, 0, [])]
def blX0_divide_7 : List aIn := [(.ifCond .eq 5, 12, 0, 0, [])]
def blX0_divide_10 : List aIn := [(.iconst 0, 0, 0, 0, []), (.ireturn, 0, 0, 0, [])]
def blX0_divide_12 : List aIn := [(.aload_n 3, 3, 0, 0, []), (.getfield 57, 3, 1, 2, []), (.aload_n 1, 1, 0, 0, []), (.getfield 57, 3, 1, 2, []), (.aload_n 2, 2, 0, 0, []), (.getfield 29, 3, 2, 2, []), (.invokevirtual 34, 3, 0, 0, [])]
def blX0_divide_27 : List aIn := [(.aload_n 3, 3, 0, 0, []), (.getfield 29, 3, 2, 2, []), (.aload_n 1, 1, 0, 0, []), (.getfield 29, 3, 2, 2, []), (.aload_n 2, 2, 0, 0, []), (.getfield 57, 3, 1, 2, []), (.invokevirtual 34, 3, 0, 0, [])]
def blX0_divide_42 : List aIn := [(.aload_n 3, 3, 0, 0, []), (.aload_n 1, 1, 0, 0, []), (.getfield 38, 3, 0, 1, []), (.aload_n 2, 2, 0, 0, []), (.getfield 38, 3, 0, 1, []), (.if_icmp .eq 7, 58, 0, 0, [])]
def blX0_divide_54 : List aIn := [(.iconst 1, 1, 0, 0, []), (.goto 4, 59, 0, 0, [])]
def blX0_divide_58 : List aIn := [(.iconst 0, 0, 0, 0, [])]
def blX0_divide_59 : List aIn := [(.invokevirtual 60, 2, 0, 0, [])]
def blX0_divide_62 : List aIn := [(.iconst 1, 1, 0, 0, []), (.ireturn, 0, 0, 0, [])]
def bkX0_divide : List (Nat × List aIn) := [(0, blX0_divide_0), (7, blX0_divide_7), (10, blX0_divide_10), (12, blX0_divide_12), (27, blX0_divide_27), (42, blX0_divide_42), (54, blX0_divide_54), (58, blX0_divide_58), (59, blX0_divide_59), (62, blX0_divide_62)]
theorem bqX0_divide_0 : aLook bkX0_divide 0 = some blX0_divide_0 := rfl
theorem bqX0_divide_7 : aLook bkX0_divide 7 = some blX0_divide_7 := rfl
theorem bqX0_divide_10 : aLook bkX0_divide 10 = some blX0_divide_10 := rfl
theorem bqX0_divide_12 : aLook bkX0_divide 12 = some blX0_divide_12 := rfl
theorem bqX0_divide_27 : aLook bkX0_divide 27 = some blX0_divide_27 := rfl
theorem bqX0_divide_42 : aLook bkX0_divide 42 = some blX0_divide_42 := rfl
theorem bqX0_divide_54 : aLook bkX0_divide 54 = some blX0_divide_54 := rfl
theorem bqX0_divide_58 : aLook bkX0_divide 58 = some blX0_divide_58 := rfl
theorem bqX0_divide_59 : aLook bkX0_divide 59 = some blX0_divide_59 := rfl
theorem bqX0_divide_62 : aLook bkX0_divide 62 = some blX0_divide_62 := rfl
theorem boX0_divide : ∀ pc is, aLook bkX0_divide pc = some is → aBlk RX0 cX0_divide 4 false pc is := aBks_ok (lk := lkX0) lkX0_ok (by decide +kernel)
def blX0_remainder_0 : List aIn := [(.aload_n 2, 2, 0, 0, []), (.getfield 57, 3, 1, 2, []), (.invokevirtual 64, 1, 0, 0, [])]
def blX0_remainder_7 : List aIn := [(.ifCond .eq 5, 12, 0, 0, [])]
def blX0_remainder_10 : List aIn := [(.iconst 0, 0, 0, 0, []), (.ireturn, 0, 0, 0, [])]
def blX0_remainder_12 : List aIn := [(.aload_n 0, 0, 0, 0, []), (.aload_n 1, 1, 0, 0, []), (.aload_n 2, 2, 0, 0, []), (.invokevirtual 25, 3, 0, 0, [])]
def blX0_remainder_18 : List aIn := [(.aload_n 0, 0, 0, 0, []), (.getfield 10, 2, 0, 2, []), (.aload_n 0, 0, 0, 0, []), (.getfield 16, 2, 1, 2, []), (.aload_n 0, 0, 0, 0, []), (.getfield 19, 2, 2, 2, []), (.aload_n 0, 0, 0, 0, []), (.getfield 22, 2, 3, 2, []), (.invokevirtual 68, 4, 0, 0, [])]
def blX0_remainder_37 : List aIn := [(.aload_n 3, 3, 0, 0, []), (.aload_n 0, 0, 0, 0, []), (.getfield 10, 2, 0, 2, []), (.aload_n 1, 1, 0, 0, []), (.getfield 38, 3, 0, 1, []), (.invokevirtual 46, 3, 0, 0, [])]
def blX0_remainder_49 : List aIn := [(.aload_n 3, 3, 0, 0, []), (.getfield 29, 3, 2, 2, []), (.aload_n 1, 1, 0, 0, []), (.getfield 29, 3, 2, 2, []), (.aload_n 2, 2, 0, 0, []), (.getfield 29, 3, 2, 2, []), (.invokevirtual 34, 3, 0, 0, [])]
def blX0_remainder_64 : List aIn := [(.iconst 1, 1, 0, 0, []), (.ireturn, 0, 0, 0, [])]
def bkX0_remainder : List (Nat × List aIn) := [(0, blX0_remainder_0), (7, blX0_remainder_7), (10, blX0_remainder_10), (12, blX0_remainder_12), (18, blX0_remainder_18), (37, blX0_remainder_37), (49, blX0_remainder_49), (64, blX0_remainder_64)]
theorem bqX0_remainder_0 : aLook bkX0_remainder 0 = some blX0_remainder_0 := rfl
theorem bqX0_remainder_7 : aLook bkX0_remainder 7 = some blX0_remainder_7 := rfl
theorem bqX0_remainder_10 : aLook bkX0_remainder 10 = some blX0_remainder_10 := rfl
theorem bqX0_remainder_12 : aLook bkX0_remainder 12 = some blX0_remainder_12 := rfl
theorem bqX0_remainder_18 : aLook bkX0_remainder 18 = some blX0_remainder_18 := rfl
theorem bqX0_remainder_37 : aLook bkX0_remainder 37 = some blX0_remainder_37 := rfl
theorem bqX0_remainder_49 : aLook bkX0_remainder 49 = some blX0_remainder_49 := rfl
theorem bqX0_remainder_64 : aLook bkX0_remainder 64 = some blX0_remainder_64 := rfl
theorem boX0_remainder : ∀ pc is, aLook bkX0_remainder pc = some is → aBlk RX0 cX0_remainder 4 false pc is := aBks_ok (lk := lkX0) lkX0_ok (by decide +kernel)
def blX0_shift_0 : List aIn := [(.aload_n 3, 3, 0, 0, []), (.aload_n 1, 1, 0, 0, []), (.getfield 57, 3, 1, 2, []), (.aload_n 1, 1, 0, 0, []), (.getfield 38, 3, 0, 1, []), (.invokevirtual 46, 3, 0, 0, [])]
def blX0_shift_12 : List aIn := [(.aload_n 3, 3, 0, 0, []), (.getfield 29, 3, 2, 2, []), (.aload_n 1, 1, 0, 0, []), (.getfield 29, 3, 2, 2, []), (.invokevirtual 72, 2, 0, 0, [])]
def blX0_shift_23 : List aIn := [(.aload_n 3, 3, 0, 0, []), (.getfield 57, 3, 1, 2, []), (.iload_n 2, 2, 0, 0, []), (.invokevirtual 75, 2, 0, 0, [])]
def blX0_shift_31 : List aIn := [(.aload_n 3, 3, 0, 0, []), (.getfield 29, 3, 2, 2, []), (.iload_n 2, 2, 0, 0, []), (.ineg, 0, 0, 0, []), (.invokevirtual 75, 2, 0, 0, [])]
def blX0_shift_40 : List aIn := [(.return_, 0, 0, 0, [])]
def bkX0_shift : List (Nat × List aIn) := [(0, blX0_shift_0), (12, blX0_shift_12), (23, blX0_shift_23), (31, blX0_shift_31), (40, blX0_shift_40)]
theorem bqX0_shift_0 : aLook bkX0_shift 0 = some blX0_shift_0 := rfl
theorem bqX0_shift_12 : aLook bkX0_shift 12 = some blX0_shift_12 := rfl
theorem bqX0_shift_23 : aLook bkX0_shift 23 = some blX0_shift_23 := rfl
theorem bqX0_shift_31 : aLook bkX0_shift 31 = some blX0_shift_31 := rfl
theorem bqX0_shift_40 : aLook bkX0_shift 40 = some blX0_shift_40 := rfl
theorem boX0_shift : ∀ pc is, aLook bkX0_shift pc = some is → aBlk RX0 cX0_shift 4 false pc is := aBks_ok (lk := lkX0) lkX0_ok (by decide +kernel)
def blX0_divideWhole_0 : List aIn := [(.aload_n 0, 0, 0, 0, []), (.aload_n 2, 2, 0, 0, []), (.invokevirtual 79, 2, 0, 0, [])]
def blX0_divideWhole_5 : List aIn := [(.lstore 4, 4, 0, 0, []), (.lload 4, 4, 0, 0, []), (.lconst 0, 0, 0, 0, []), (.lcmp, 0, 0, 0, []), (.ifCond .ne 5, 16, 0, 0, [])]
def blX0_divideWhole_14 : List aIn := [(.iconst 0, 0, 0, 0, []), (.ireturn, 0, 0, 0, [])]
def blX0_divideWhole_16 : List aIn := [(.aload_n 3, 3, 0, 0, []), (.aload_n 0, 0, 0, 0, []), (.aload_n 1, 1, 0, 0, []), (.invokevirtual 79, 2, 0, 0, [])]
def blX0_divideWhole_22 : List aIn := [(.lload 4, 4, 0, 0, []), (.ldiv, 0, 0, 0, []), (.invokevirtual 83, 2, 0, 0, [])]
def blX0_divideWhole_28 : List aIn := [(.iconst 1, 1, 0, 0, []), (.ireturn, 0, 0, 0, [])]
def bkX0_divideWhole : List (Nat × List aIn) := [(0, blX0_divideWhole_0), (5, blX0_divideWhole_5), (14, blX0_divideWhole_14), (16, blX0_divideWhole_16), (22, blX0_divideWhole_22), (28, blX0_divideWhole_28)]
theorem bqX0_divideWhole_0 : aLook bkX0_divideWhole 0 = some blX0_divideWhole_0 := rfl
theorem bqX0_divideWhole_5 : aLook bkX0_divideWhole 5 = some blX0_divideWhole_5 := rfl
theorem bqX0_divideWhole_14 : aLook bkX0_divideWhole 14 = some blX0_divideWhole_14 := rfl
theorem bqX0_divideWhole_16 : aLook bkX0_divideWhole 16 = some blX0_divideWhole_16 := rfl
theorem bqX0_divideWhole_22 : aLook bkX0_divideWhole 22 = some blX0_divideWhole_22 := rfl
theorem bqX0_divideWhole_28 : aLook bkX0_divideWhole 28 = some blX0_divideWhole_28 := rfl
theorem boX0_divideWhole : ∀ pc is, aLook bkX0_divideWhole pc = some is → aBlk RX0 cX0_divideWhole 6 false pc is := aBks_ok (lk := lkX0) lkX0_ok (by decide +kernel)
def blX0_remainderWhole_0 : List aIn := [(.aload_n 0, 0, 0, 0, []), (.aload_n 2, 2, 0, 0, []), (.invokevirtual 79, 2, 0, 0, [])]
def blX0_remainderWhole_5 : List aIn := [(.lstore 4, 4, 0, 0, []), (.lload 4, 4, 0, 0, []), (.lconst 0, 0, 0, 0, []), (.lcmp, 0, 0, 0, []), (.ifCond .ne 5, 16, 0, 0, [])]
def blX0_remainderWhole_14 : List aIn := [(.iconst 0, 0, 0, 0, []), (.ireturn, 0, 0, 0, [])]
def blX0_remainderWhole_16 : List aIn := [(.aload_n 3, 3, 0, 0, []), (.aload_n 0, 0, 0, 0, []), (.aload_n 1, 1, 0, 0, []), (.invokevirtual 79, 2, 0, 0, [])]
def blX0_remainderWhole_22 : List aIn := [(.lload 4, 4, 0, 0, []), (.lrem, 0, 0, 0, []), (.invokevirtual 83, 2, 0, 0, [])]
def blX0_remainderWhole_28 : List aIn := [(.iconst 1, 1, 0, 0, []), (.ireturn, 0, 0, 0, [])]
def bkX0_remainderWhole : List (Nat × List aIn) := [(0, blX0_remainderWhole_0), (5, blX0_remainderWhole_5), (14, blX0_remainderWhole_14), (16, blX0_remainderWhole_16), (22, blX0_remainderWhole_22), (28, blX0_remainderWhole_28)]
theorem bqX0_remainderWhole_0 : aLook bkX0_remainderWhole 0 = some blX0_remainderWhole_0 := rfl
theorem bqX0_remainderWhole_5 : aLook bkX0_remainderWhole 5 = some blX0_remainderWhole_5 := rfl
theorem bqX0_remainderWhole_14 : aLook bkX0_remainderWhole 14 = some blX0_remainderWhole_14 := rfl
theorem bqX0_remainderWhole_16 : aLook bkX0_remainderWhole 16 = some blX0_remainderWhole_16 := rfl
theorem bqX0_remainderWhole_22 : aLook bkX0_remainderWhole 22 = some blX0_remainderWhole_22 := rfl
theorem bqX0_remainderWhole_28 : aLook bkX0_remainderWhole 28 = some blX0_remainderWhole_28 := rfl
theorem boX0_remainderWhole : ∀ pc is, aLook bkX0_remainderWhole pc = some is → aBlk RX0 cX0_remainderWhole 6 false pc is := aBks_ok (lk := lkX0) lkX0_ok (by decide +kernel)
def blX0_wholeBits_0 : List aIn := [(.aload_n 0, 0, 0, 0, []), (.getfield 10, 2, 0, 2, []), (.aload_n 1, 1, 0, 0, []), (.getfield 57, 3, 1, 2, []), (.invokevirtual 72, 2, 0, 0, [])]
def blX0_wholeBits_11 : List aIn := [(.aload_n 0, 0, 0, 0, []), (.getfield 10, 2, 0, 2, []), (.aload_n 1, 1, 0, 0, []), (.getfield 29, 3, 2, 2, []), (.aload_n 0, 0, 0, 0, []), (.getfield 19, 2, 2, 2, []), (.aload_n 0, 0, 0, 0, []), (.getfield 22, 2, 3, 2, []), (.invokevirtual 68, 4, 0, 0, [])]
def blX0_wholeBits_30 : List aIn := [(.aload_n 1, 1, 0, 0, []), (.getfield 38, 3, 0, 1, []), (.ifCond .eq 14, 48, 0, 0, [])]
def blX0_wholeBits_37 : List aIn := [(.aload_n 0, 0, 0, 0, []), (.getfield 19, 2, 2, 2, []), (.invokevirtual 87, 1, 0, 0, [])]
def blX0_wholeBits_44 : List aIn := [(.lneg, 0, 0, 0, []), (.goto 10, 55, 0, 0, [])]
def blX0_wholeBits_48 : List aIn := [(.aload_n 0, 0, 0, 0, []), (.getfield 19, 2, 2, 2, []), (.invokevirtual 87, 1, 0, 0, [])]
def blX0_wholeBits_55 : List aIn := [(.lreturn, 0, 0, 0, [])]
def bkX0_wholeBits : List (Nat × List aIn) := [(0, blX0_wholeBits_0), (11, blX0_wholeBits_11), (30, blX0_wholeBits_30), (37, blX0_wholeBits_37), (44, blX0_wholeBits_44), (48, blX0_wholeBits_48), (55, blX0_wholeBits_55)]
theorem bqX0_wholeBits_0 : aLook bkX0_wholeBits 0 = some blX0_wholeBits_0 := rfl
theorem bqX0_wholeBits_11 : aLook bkX0_wholeBits 11 = some blX0_wholeBits_11 := rfl
theorem bqX0_wholeBits_30 : aLook bkX0_wholeBits 30 = some blX0_wholeBits_30 := rfl
theorem bqX0_wholeBits_37 : aLook bkX0_wholeBits 37 = some blX0_wholeBits_37 := rfl
theorem bqX0_wholeBits_44 : aLook bkX0_wholeBits 44 = some blX0_wholeBits_44 := rfl
theorem bqX0_wholeBits_48 : aLook bkX0_wholeBits 48 = some blX0_wholeBits_48 := rfl
theorem bqX0_wholeBits_55 : aLook bkX0_wholeBits 55 = some blX0_wholeBits_55 := rfl
theorem boX0_wholeBits : ∀ pc is, aLook bkX0_wholeBits pc = some is → aBlk RX0 cX0_wholeBits 2 false pc is := aBks_ok (lk := lkX0) lkX0_ok (by decide +kernel)
def blX0_order_0 : List aIn := [(.aload_n 1, 1, 0, 0, []), (.getfield 38, 3, 0, 1, []), (.aload_n 2, 2, 0, 0, []), (.getfield 38, 3, 0, 1, []), (.if_icmp .eq 16, 24, 0, 0, [])]
def blX0_order_11 : List aIn := [(.aload_n 1, 1, 0, 0, []), (.getfield 38, 3, 0, 1, []), (.ifCond .eq 7, 22, 0, 0, [])]
def blX0_order_18 : List aIn := [(.iconst (-1), 1, 1, 0, []), (.goto 4, 23, 0, 0, [])]
def blX0_order_22 : List aIn := [(.iconst 1, 1, 0, 0, [])]
def blX0_order_23 : List aIn := [(.ireturn, 0, 0, 0, [])]
def blX0_order_24 : List aIn := [(.aload_n 0, 0, 0, 0, []), (.aload_n 1, 1, 0, 0, []), (.aload_n 2, 2, 0, 0, []), (.invokevirtual 25, 3, 0, 0, [])]
def blX0_order_30 : List aIn := [(.aload_n 1, 1, 0, 0, []), (.getfield 38, 3, 0, 1, []), (.ifCond .eq 17, 51, 0, 0, [])]
def blX0_order_37 : List aIn := [(.aload_n 0, 0, 0, 0, []), (.getfield 16, 2, 1, 2, []), (.aload_n 0, 0, 0, 0, []), (.getfield 10, 2, 0, 2, []), (.invokevirtual 50, 2, 0, 0, [])]
def blX0_order_48 : List aIn := [(.goto 14, 62, 0, 0, [])]
def blX0_order_51 : List aIn := [(.aload_n 0, 0, 0, 0, []), (.getfield 10, 2, 0, 2, []), (.aload_n 0, 0, 0, 0, []), (.getfield 16, 2, 1, 2, []), (.invokevirtual 50, 2, 0, 0, [])]
def blX0_order_62 : List aIn := [(.ireturn, 0, 0, 0, [])]
def bkX0_order : List (Nat × List aIn) := [(0, blX0_order_0), (11, blX0_order_11), (18, blX0_order_18), (22, blX0_order_22), (23, blX0_order_23), (24, blX0_order_24), (30, blX0_order_30), (37, blX0_order_37), (48, blX0_order_48), (51, blX0_order_51), (62, blX0_order_62)]
theorem bqX0_order_0 : aLook bkX0_order 0 = some blX0_order_0 := rfl
theorem bqX0_order_11 : aLook bkX0_order 11 = some blX0_order_11 := rfl
theorem bqX0_order_18 : aLook bkX0_order 18 = some blX0_order_18 := rfl
theorem bqX0_order_22 : aLook bkX0_order 22 = some blX0_order_22 := rfl
theorem bqX0_order_23 : aLook bkX0_order 23 = some blX0_order_23 := rfl
theorem bqX0_order_24 : aLook bkX0_order 24 = some blX0_order_24 := rfl
theorem bqX0_order_30 : aLook bkX0_order 30 = some blX0_order_30 := rfl
theorem bqX0_order_37 : aLook bkX0_order 37 = some blX0_order_37 := rfl
theorem bqX0_order_48 : aLook bkX0_order 48 = some blX0_order_48 := rfl
theorem bqX0_order_51 : aLook bkX0_order 51 = some blX0_order_51 := rfl
theorem bqX0_order_62 : aLook bkX0_order 62 = some blX0_order_62 := rfl
theorem boX0_order : ∀ pc is, aLook bkX0_order pc = some is → aBlk RX0 cX0_order 3 false pc is := aBks_ok (lk := lkX0) lkX0_ok (by decide +kernel)
def blX0_cross_0 : List aIn := [(.aload_n 0, 0, 0, 0, []), (.getfield 10, 2, 0, 2, []), (.aload_n 1, 1, 0, 0, []), (.getfield 57, 3, 1, 2, []), (.aload_n 2, 2, 0, 0, []), (.getfield 29, 3, 2, 2, []), (.invokevirtual 34, 3, 0, 0, [])]
def blX0_cross_15 : List aIn := [(.aload_n 0, 0, 0, 0, []), (.getfield 16, 2, 1, 2, []), (.aload_n 2, 2, 0, 0, []), (.getfield 57, 3, 1, 2, []), (.aload_n 1, 1, 0, 0, []), (.getfield 29, 3, 2, 2, []), (.invokevirtual 34, 3, 0, 0, [])]
def blX0_cross_30 : List aIn := [(.return_, 0, 0, 0, [])]
def bkX0_cross : List (Nat × List aIn) := [(0, blX0_cross_0), (15, blX0_cross_15), (30, blX0_cross_30)]
theorem bqX0_cross_0 : aLook bkX0_cross 0 = some blX0_cross_0 := rfl
theorem bqX0_cross_15 : aLook bkX0_cross 15 = some blX0_cross_15 := rfl
theorem bqX0_cross_30 : aLook bkX0_cross 30 = some blX0_cross_30 := rfl
theorem boX0_cross : ∀ pc is, aLook bkX0_cross pc = some is → aBlk RX0 cX0_cross 3 false pc is := aBks_ok (lk := lkX0) lkX0_ok (by decide +kernel)
