/-! code of PackedDecimals (printed by gen.py) -/
def blX8_init_0 : List aIn := [(.aload_n 0, 0, 0, 0, []), (.invokespecial 1, 1, 0, 0, [])]
def blX8_init_4 : List aIn := [(.aload_n 0, 0, 0, 0, []), (.bipush 64, 64, 0, 0, []), (.anewarray 9, 0, 0, 0, []), (.putfield 11, 9, 0, 2, []), (.aload_n 0, 0, 0, 0, []), (.new 15, 6, 1, 0, [2]), (.dup, 0, 0, 0, []), (.invokespecial 17, 1, 0, 0, [])]
def blX8_init_21 : List aIn := [(.putfield 18, 9, 2, 2, []), (.aload_n 0, 0, 0, 0, []), (.new 22, 2, 4, 0, [2, 2, 2, 2]), (.dup, 0, 0, 0, []), (.invokespecial 24, 1, 0, 0, [])]
def blX8_init_32 : List aIn := [(.putfield 25, 9, 3, 2, []), (.aload_n 0, 0, 0, 0, []), (.new 29, 7, 6, 0, [2, 2, 2, 2, 2, 1]), (.dup, 0, 0, 0, []), (.invokespecial 31, 1, 0, 0, [])]
def blX8_init_43 : List aIn := [(.putfield 32, 9, 4, 2, []), (.aload_n 0, 0, 0, 0, []), (.new 36, 3, 3, 0, [1, 2, 2]), (.dup, 0, 0, 0, []), (.invokespecial 38, 1, 0, 0, [])]
def blX8_init_54 : List aIn := [(.putfield 39, 9, 5, 2, []), (.aload_n 0, 0, 0, 0, []), (.new 36, 3, 3, 0, [1, 2, 2]), (.dup, 0, 0, 0, []), (.invokespecial 38, 1, 0, 0, [])]
def blX8_init_65 : List aIn := [(.putfield 43, 9, 6, 2, []), (.aload_n 0, 0, 0, 0, []), (.new 36, 3, 3, 0, [1, 2, 2]), (.dup, 0, 0, 0, []), (.invokespecial 38, 1, 0, 0, [])]
def blX8_init_76 : List aIn := [(.putfield 46, 9, 7, 2, []), (.return_, 0, 0, 0, [])]
def bkX8_init : List (Nat × List aIn) := [(0, blX8_init_0), (4, blX8_init_4), (21, blX8_init_21), (32, blX8_init_32), (43, blX8_init_43), (54, blX8_init_54), (65, blX8_init_65), (76, blX8_init_76)]
theorem bqX8_init_0 : aLook bkX8_init 0 = some blX8_init_0 := rfl
theorem bqX8_init_4 : aLook bkX8_init 4 = some blX8_init_4 := rfl
theorem bqX8_init_21 : aLook bkX8_init 21 = some blX8_init_21 := rfl
theorem bqX8_init_32 : aLook bkX8_init 32 = some blX8_init_32 := rfl
theorem bqX8_init_43 : aLook bkX8_init 43 = some blX8_init_43 := rfl
theorem bqX8_init_54 : aLook bkX8_init 54 = some blX8_init_54 := rfl
theorem bqX8_init_65 : aLook bkX8_init 65 = some blX8_init_65 := rfl
theorem bqX8_init_76 : aLook bkX8_init 76 = some blX8_init_76 := rfl
theorem boX8_init : ∀ pc is, aLook bkX8_init pc = some is → aBlk RX8 cX8_init 1 true pc is := aBks_ok (lk := lkX8i) lkX8i_ok (by decide +kernel)
def blX8_number_0 : List aIn := [(.iload_n 2, 2, 0, 0, []), (.ifCond .ge 13, 14, 0, 0, [])]
def blX8_number_4 : List aIn := [(.new 49, 0, 0, 1, [])]
def blX8_number_13 : List aIn := [(.athrow, 0, 0, 0, [])]
def blX8_number_14 : List aIn := [(.iload_n 1, 1, 0, 0, []), (.ifCond .lt 20, 35, 0, 0, [])]
def blX8_number_18 : List aIn := [(.iload_n 1, 1, 0, 0, []), (.bipush 11, 11, 0, 0, []), (.if_icmp .gt 14, 35, 0, 0, [])]
def blX8_number_24 : List aIn := [(.iload_n 2, 2, 0, 0, []), (.iconst 1, 1, 0, 0, []), (.if_icmp .lt 9, 35, 0, 0, [])]
def blX8_number_29 : List aIn := [(.iload_n 2, 2, 0, 0, []), (.bipush 31, 31, 0, 0, []), (.if_icmp .le 5, 37, 0, 0, [])]
def blX8_number_35 : List aIn := [(.iconst (-1), 1, 1, 0, []), (.ireturn, 0, 0, 0, [])]
def blX8_number_37 : List aIn := [(.iload_n 3, 3, 0, 0, []), (.ifCond .lt 17, 55, 0, 0, [])]
def blX8_number_41 : List aIn := [(.iload_n 3, 3, 0, 0, []), (.iload_n 2, 2, 0, 0, []), (.if_icmp .gt 12, 55, 0, 0, [])]
def blX8_number_46 : List aIn := [(.aload_n 0, 0, 0, 0, []), (.getfield 56, 9, 1, 0, []), (.bipush 64, 64, 0, 0, []), (.if_icmp .lt 5, 57, 0, 0, [])]
def blX8_number_55 : List aIn := [(.iconst (-1), 1, 1, 0, []), (.ireturn, 0, 0, 0, [])]
def blX8_number_57 : List aIn := [(.aload_n 0, 0, 0, 0, []), (.getfield 11, 9, 0, 2, []), (.aload_n 0, 0, 0, 0, []), (.getfield 56, 9, 1, 0, []), (.new 9, 5, 5, 0, [0, 0, 0, 2, 0]), (.dup, 0, 0, 0, []), (.iload_n 1, 1, 0, 0, []), (.iload_n 2, 2, 0, 0, []), (.iload_n 3, 3, 0, 0, []), (.invokespecial 60, 4, 0, 0, [])]
def blX8_number_75 : List aIn := [(.aastore, 0, 0, 0, []), (.aload_n 0, 0, 0, 0, []), (.dup, 0, 0, 0, []), (.getfield 56, 9, 1, 0, []), (.iconst 1, 1, 0, 0, []), (.iadd, 0, 0, 0, []), (.putfield 56, 9, 1, 0, []), (.aload_n 0, 0, 0, 0, []), (.getfield 56, 9, 1, 0, []), (.iconst 1, 1, 0, 0, []), (.isub, 0, 0, 0, []), (.ireturn, 0, 0, 0, [])]
def bkX8_number : List (Nat × List aIn) := [(0, blX8_number_0), (4, blX8_number_4), (13, blX8_number_13), (14, blX8_number_14), (18, blX8_number_18), (24, blX8_number_24), (29, blX8_number_29), (35, blX8_number_35), (37, blX8_number_37), (41, blX8_number_41), (46, blX8_number_46), (55, blX8_number_55), (57, blX8_number_57), (75, blX8_number_75)]
theorem bqX8_number_0 : aLook bkX8_number 0 = some blX8_number_0 := rfl
theorem bqX8_number_4 : aLook bkX8_number 4 = some blX8_number_4 := rfl
theorem bqX8_number_13 : aLook bkX8_number 13 = some blX8_number_13 := rfl
theorem bqX8_number_14 : aLook bkX8_number 14 = some blX8_number_14 := rfl
theorem bqX8_number_18 : aLook bkX8_number 18 = some blX8_number_18 := rfl
theorem bqX8_number_24 : aLook bkX8_number 24 = some blX8_number_24 := rfl
theorem bqX8_number_29 : aLook bkX8_number 29 = some blX8_number_29 := rfl
theorem bqX8_number_35 : aLook bkX8_number 35 = some blX8_number_35 := rfl
theorem bqX8_number_37 : aLook bkX8_number 37 = some blX8_number_37 := rfl
theorem bqX8_number_41 : aLook bkX8_number 41 = some blX8_number_41 := rfl
theorem bqX8_number_46 : aLook bkX8_number 46 = some blX8_number_46 := rfl
theorem bqX8_number_55 : aLook bkX8_number 55 = some blX8_number_55 := rfl
theorem bqX8_number_57 : aLook bkX8_number 57 = some blX8_number_57 := rfl
theorem bqX8_number_75 : aLook bkX8_number 75 = some blX8_number_75 := rfl
theorem boX8_number : ∀ pc is, aLook bkX8_number pc = some is → aBlk RX8 cX8_number 4 false pc is := aBks_ok (lk := lkX8) lkX8_ok (by decide +kernel)
def blX8_octet_0 : List aIn := [(.aload_n 0, 0, 0, 0, []), (.iload_n 1, 1, 0, 0, []), (.iload_n 2, 2, 0, 0, []), (.invokevirtual 63, 3, 0, 0, [])]
def blX8_octet_6 : List aIn := [(.iload_n 2, 2, 0, 0, []), (.iload_n 3, 3, 0, 0, []), (.invokevirtual 67, 3, 0, 0, [])]
def blX8_octet_11 : List aIn := [(.return_, 0, 0, 0, [])]
def bkX8_octet : List (Nat × List aIn) := [(0, blX8_octet_0), (6, blX8_octet_6), (11, blX8_octet_11)]
theorem bqX8_octet_0 : aLook bkX8_octet 0 = some blX8_octet_0 := rfl
theorem bqX8_octet_6 : aLook bkX8_octet 6 = some blX8_octet_6 := rfl
theorem bqX8_octet_11 : aLook bkX8_octet 11 = some blX8_octet_11 := rfl
theorem boX8_octet : ∀ pc is, aLook bkX8_octet pc = some is → aBlk RX8 cX8_octet 4 false pc is := aBks_ok (lk := lkX8) lkX8_ok (by decide +kernel)
def blX8_at_0 : List aIn := [(.aload_n 0, 0, 0, 0, []), (.iload_n 1, 1, 0, 0, []), (.iload_n 2, 2, 0, 0, []), (.invokevirtual 63, 3, 0, 0, [])]
def blX8_at_6 : List aIn := [(.iload_n 2, 2, 0, 0, []), (.invokevirtual 71, 2, 0, 0, [])]
def blX8_at_10 : List aIn := [(.i2b, 0, 0, 0, []), (.ireturn, 0, 0, 0, [])]
def bkX8_at : List (Nat × List aIn) := [(0, blX8_at_0), (6, blX8_at_6), (10, blX8_at_10)]
theorem bqX8_at_0 : aLook bkX8_at 0 = some blX8_at_0 := rfl
theorem bqX8_at_6 : aLook bkX8_at 6 = some blX8_at_6 := rfl
theorem bqX8_at_10 : aLook bkX8_at 10 = some blX8_at_10 := rfl
theorem boX8_at : ∀ pc is, aLook bkX8_at pc = some is → aBlk RX8 cX8_at 3 false pc is := aBks_ok (lk := lkX8) lkX8_ok (by decide +kernel)
def blX8_size_0 : List aIn := [(.aload_n 0, 0, 0, 0, []), (.iload_n 1, 1, 0, 0, []), (.invokevirtual 75, 2, 0, 0, [])]
def blX8_size_5 : List aIn := [(.getfield 79, 5, 3, 2, []), (.arraylength, 0, 0, 0, []), (.ireturn, 0, 0, 0, [])]
def bkX8_size : List (Nat × List aIn) := [(0, blX8_size_0), (5, blX8_size_5)]
theorem bqX8_size_0 : aLook bkX8_size 0 = some blX8_size_0 := rfl
theorem bqX8_size_5 : aLook bkX8_size 5 = some blX8_size_5 := rfl
theorem boX8_size : ∀ pc is, aLook bkX8_size pc = some is → aBlk RX8 cX8_size 2 false pc is := aBks_ok (lk := lkX8) lkX8_ok (by decide +kernel)
def blX8_apply_0 : List aIn := [(.aload_n 0, 0, 0, 0, []), (.iload_n 2, 2, 0, 0, []), (.invokevirtual 75, 2, 0, 0, [])]
def blX8_apply_5 : List aIn := [(.astore 5, 5, 0, 0, []), (.iload_n 1, 1, 0, 0, []), (.iconst 5, 5, 0, 0, []), (.if_icmp .ne 8, 17, 0, 0, [])]
def blX8_apply_12 : List aIn := [(.aload 5, 5, 0, 0, []), (.goto 8, 22, 0, 0, [])]
def blX8_apply_17 : List aIn := [(.aload_n 0, 0, 0, 0, []), (.iload_n 3, 3, 0, 0, []), (.invokevirtual 75, 2, 0, 0, [])]
def blX8_apply_22 : List aIn := [(.astore 6, 6, 0, 0, []), (.aload_n 0, 0, 0, 0, []), (.iload 4, 4, 0, 0, []), (.invokevirtual 75, 2, 0, 0, [])]
def blX8_apply_30 : List aIn := [(.astore 7, 7, 0, 0, []), (.iload_n 1, 1, 0, 0, []), (.ifCond .lt 26, 59, 0, 0, [])]
def blX8_apply_36 : List aIn := [(.iload_n 1, 1, 0, 0, []), (.bipush 7, 7, 0, 0, []), (.if_icmp .gt 20, 59, 0, 0, [])]
def blX8_apply_42 : List aIn := [(.iload_n 1, 1, 0, 0, []), (.iconst 5, 5, 0, 0, []), (.if_icmp .ne 18, 62, 0, 0, [])]
def blX8_apply_47 : List aIn := [(.iload_n 3, 3, 0, 0, []), (.bipush (-40), 40, 1, 0, []), (.if_icmp .lt 9, 59, 0, 0, [])]
def blX8_apply_53 : List aIn := [(.iload_n 3, 3, 0, 0, []), (.bipush 40, 40, 0, 0, []), (.if_icmp .le 6, 62, 0, 0, [])]
def blX8_apply_59 : List aIn := [(.bipush (-2), 2, 1, 0, []), (.ireturn, 0, 0, 0, [])]
def blX8_apply_62 : List aIn := [(.aload_n 0, 0, 0, 0, []), (.getfield 18, 9, 2, 2, []), (.aload 5, 5, 0, 0, []), (.aload_n 0, 0, 0, 0, []), (.getfield 39, 9, 5, 2, []), (.invokevirtual 83, 3, 0, 0, [])]
def blX8_apply_75 : List aIn := [(.ifCond .eq 19, 94, 0, 0, [])]
def blX8_apply_78 : List aIn := [(.aload_n 0, 0, 0, 0, []), (.getfield 18, 9, 2, 2, []), (.aload 6, 6, 0, 0, []), (.aload_n 0, 0, 0, 0, []), (.getfield 43, 9, 6, 2, []), (.invokevirtual 83, 3, 0, 0, [])]
def blX8_apply_91 : List aIn := [(.ifCond .ne 5, 96, 0, 0, [])]
def blX8_apply_94 : List aIn := [(.iconst (-1), 1, 1, 0, []), (.ireturn, 0, 0, 0, [])]
def blX8_apply_96 : List aIn := [(.iload_n 1, 1, 0, 0, []), (.iconst 4, 4, 0, 0, []), (.if_icmp .eq 9, 107, 0, 0, [])]
def blX8_apply_101 : List aIn := [(.iload_n 1, 1, 0, 0, []), (.bipush 7, 7, 0, 0, []), (.if_icmp .ne 29, 133, 0, 0, [])]
def blX8_apply_107 : List aIn := [(.aload_n 0, 0, 0, 0, []), (.getfield 25, 9, 3, 2, []), (.aload_n 0, 0, 0, 0, []), (.getfield 43, 9, 6, 2, []), (.invokevirtual 87, 2, 0, 0, [])]
def blX8_apply_118 : List aIn := [(.lconst 0, 0, 0, 0, []), (.lcmp, 0, 0, 0, []), (.ifCond .ne 13, 133, 0, 0, [])]
def blX8_apply_123 : List aIn := [(.new 91, 0, 0, 3, [])]
def blX8_apply_132 : List aIn := [(.athrow, 0, 0, 0, [])]
def blX8_apply_133 : List aIn := [(.aload_n 0, 0, 0, 0, []), (.iload_n 1, 1, 0, 0, []), (.iload_n 3, 3, 0, 0, []), (.invokevirtual 96, 3, 0, 0, [])]
def blX8_apply_139 : List aIn := [(.ifCond .eq 23, 162, 0, 0, [])]
def blX8_apply_142 : List aIn := [(.aload_n 0, 0, 0, 0, []), (.getfield 32, 9, 4, 2, []), (.aload 7, 7, 0, 0, []), (.aload_n 0, 0, 0, 0, []), (.getfield 46, 9, 7, 2, []), (.invokevirtual 100, 3, 0, 0, [])]
def blX8_apply_155 : List aIn := [(.ifCond .eq 7, 162, 0, 0, [])]
def blX8_apply_158 : List aIn := [(.iconst 1, 1, 0, 0, []), (.goto 4, 163, 0, 0, [])]
def blX8_apply_162 : List aIn := [(.iconst 0, 0, 0, 0, [])]
def blX8_apply_163 : List aIn := [(.ireturn, 0, 0, 0, [])]
def bkX8_apply : List (Nat × List aIn) := [(0, blX8_apply_0), (5, blX8_apply_5), (12, blX8_apply_12), (17, blX8_apply_17), (22, blX8_apply_22), (30, blX8_apply_30), (36, blX8_apply_36), (42, blX8_apply_42), (47, blX8_apply_47), (53, blX8_apply_53), (59, blX8_apply_59), (62, blX8_apply_62), (75, blX8_apply_75), (78, blX8_apply_78), (91, blX8_apply_91), (94, blX8_apply_94), (96, blX8_apply_96), (101, blX8_apply_101), (107, blX8_apply_107), (118, blX8_apply_118), (123, blX8_apply_123), (132, blX8_apply_132), (133, blX8_apply_133), (139, blX8_apply_139), (142, blX8_apply_142), (155, blX8_apply_155), (158, blX8_apply_158), (162, blX8_apply_162), (163, blX8_apply_163)]
theorem bqX8_apply_0 : aLook bkX8_apply 0 = some blX8_apply_0 := rfl
theorem bqX8_apply_5 : aLook bkX8_apply 5 = some blX8_apply_5 := rfl
theorem bqX8_apply_12 : aLook bkX8_apply 12 = some blX8_apply_12 := rfl
theorem bqX8_apply_17 : aLook bkX8_apply 17 = some blX8_apply_17 := rfl
theorem bqX8_apply_22 : aLook bkX8_apply 22 = some blX8_apply_22 := rfl
theorem bqX8_apply_30 : aLook bkX8_apply 30 = some blX8_apply_30 := rfl
theorem bqX8_apply_36 : aLook bkX8_apply 36 = some blX8_apply_36 := rfl
theorem bqX8_apply_42 : aLook bkX8_apply 42 = some blX8_apply_42 := rfl
theorem bqX8_apply_47 : aLook bkX8_apply 47 = some blX8_apply_47 := rfl
theorem bqX8_apply_53 : aLook bkX8_apply 53 = some blX8_apply_53 := rfl
theorem bqX8_apply_59 : aLook bkX8_apply 59 = some blX8_apply_59 := rfl
theorem bqX8_apply_62 : aLook bkX8_apply 62 = some blX8_apply_62 := rfl
theorem bqX8_apply_75 : aLook bkX8_apply 75 = some blX8_apply_75 := rfl
theorem bqX8_apply_78 : aLook bkX8_apply 78 = some blX8_apply_78 := rfl
theorem bqX8_apply_91 : aLook bkX8_apply 91 = some blX8_apply_91 := rfl
theorem bqX8_apply_94 : aLook bkX8_apply 94 = some blX8_apply_94 := rfl
theorem bqX8_apply_96 : aLook bkX8_apply 96 = some blX8_apply_96 := rfl
theorem bqX8_apply_101 : aLook bkX8_apply 101 = some blX8_apply_101 := rfl
theorem bqX8_apply_107 : aLook bkX8_apply 107 = some blX8_apply_107 := rfl
theorem bqX8_apply_118 : aLook bkX8_apply 118 = some blX8_apply_118 := rfl
theorem bqX8_apply_123 : aLook bkX8_apply 123 = some blX8_apply_123 := rfl
theorem bqX8_apply_132 : aLook bkX8_apply 132 = some blX8_apply_132 := rfl
theorem bqX8_apply_133 : aLook bkX8_apply 133 = some blX8_apply_133 := rfl
theorem bqX8_apply_139 : aLook bkX8_apply 139 = some blX8_apply_139 := rfl
theorem bqX8_apply_142 : aLook bkX8_apply 142 = some blX8_apply_142 := rfl
theorem bqX8_apply_155 : aLook bkX8_apply 155 = some blX8_apply_155 := rfl
theorem bqX8_apply_158 : aLook bkX8_apply 158 = some blX8_apply_158 := rfl
theorem bqX8_apply_162 : aLook bkX8_apply 162 = some blX8_apply_162 := rfl
theorem bqX8_apply_163 : aLook bkX8_apply 163 = some blX8_apply_163 := rfl
theorem boX8_apply : ∀ pc is, aLook bkX8_apply pc = some is → aBlk RX8 cX8_apply 8 false pc is := aBks_ok (lk := lkX8) lkX8_ok (by decide +kernel)
def blX8_compare_0 : List aIn := [(.aload_n 0, 0, 0, 0, []), (.iload_n 1, 1, 0, 0, []), (.invokevirtual 75, 2, 0, 0, [])]
def blX8_compare_5 : List aIn := [(.astore_n 3, 3, 0, 0, []), (.aload_n 0, 0, 0, 0, []), (.iload_n 2, 2, 0, 0, []), (.invokevirtual 75, 2, 0, 0, [])]
def blX8_compare_11 : List aIn := [(.astore 4, 4, 0, 0, []), (.aload_n 0, 0, 0, 0, []), (.getfield 18, 9, 2, 2, []), (.aload_n 3, 3, 0, 0, []), (.aload_n 0, 0, 0, 0, []), (.getfield 39, 9, 5, 2, []), (.invokevirtual 83, 3, 0, 0, [])]
def blX8_compare_25 : List aIn := [(.ifCond .eq 19, 44, 0, 0, [])]
def blX8_compare_28 : List aIn := [(.aload_n 0, 0, 0, 0, []), (.getfield 18, 9, 2, 2, []), (.aload 4, 4, 0, 0, []), (.aload_n 0, 0, 0, 0, []), (.getfield 43, 9, 6, 2, []), (.invokevirtual 83, 3, 0, 0, [])]
def blX8_compare_41 : List aIn := [(.ifCond .ne 6, 47, 0, 0, [])]
def blX8_compare_44 : List aIn := [(.bipush (-2), 2, 1, 0, []), (.ireturn, 0, 0, 0, [])]
def blX8_compare_47 : List aIn := [(.aload_n 0, 0, 0, 0, []), (.getfield 25, 9, 3, 2, []), (.aload_n 0, 0, 0, 0, []), (.getfield 39, 9, 5, 2, []), (.aload_n 0, 0, 0, 0, []), (.getfield 43, 9, 6, 2, []), (.invokevirtual 103, 3, 0, 0, [])]
def blX8_compare_62 : List aIn := [(.ireturn, 0, 0, 0, [])]
def bkX8_compare : List (Nat × List aIn) := [(0, blX8_compare_0), (5, blX8_compare_5), (11, blX8_compare_11), (25, blX8_compare_25), (28, blX8_compare_28), (41, blX8_compare_41), (44, blX8_compare_44), (47, blX8_compare_47), (62, blX8_compare_62)]
theorem bqX8_compare_0 : aLook bkX8_compare 0 = some blX8_compare_0 := rfl
theorem bqX8_compare_5 : aLook bkX8_compare 5 = some blX8_compare_5 := rfl
theorem bqX8_compare_11 : aLook bkX8_compare 11 = some blX8_compare_11 := rfl
theorem bqX8_compare_25 : aLook bkX8_compare 25 = some blX8_compare_25 := rfl
theorem bqX8_compare_28 : aLook bkX8_compare 28 = some blX8_compare_28 := rfl
theorem bqX8_compare_41 : aLook bkX8_compare 41 = some blX8_compare_41 := rfl
theorem bqX8_compare_44 : aLook bkX8_compare 44 = some blX8_compare_44 := rfl
theorem bqX8_compare_47 : aLook bkX8_compare 47 = some blX8_compare_47 := rfl
theorem bqX8_compare_62 : aLook bkX8_compare 62 = some blX8_compare_62 := rfl
theorem boX8_compare : ∀ pc is, aLook bkX8_compare pc = some is → aBlk RX8 cX8_compare 5 false pc is := aBks_ok (lk := lkX8) lkX8_ok (by decide +kernel)
def blX8_valid_0 : List aIn := [(.aload_n 0, 0, 0, 0, []), (.getfield 18, 9, 2, 2, []), (.aload_n 0, 0, 0, 0, []), (.iload_n 1, 1, 0, 0, []), (.invokevirtual 75, 2, 0, 0, [])]
def blX8_valid_9 : List aIn := [(.aload_n 0, 0, 0, 0, []), (.getfield 39, 9, 5, 2, []), (.invokevirtual 83, 3, 0, 0, [])]
def blX8_valid_16 : List aIn := [(.ireturn, 0, 0, 0, [])]
def bkX8_valid : List (Nat × List aIn) := [(0, blX8_valid_0), (9, blX8_valid_9), (16, blX8_valid_16)]
theorem bqX8_valid_0 : aLook bkX8_valid 0 = some blX8_valid_0 := rfl
theorem bqX8_valid_9 : aLook bkX8_valid 9 = some blX8_valid_9 := rfl
theorem bqX8_valid_16 : aLook bkX8_valid 16 = some blX8_valid_16 := rfl
theorem boX8_valid : ∀ pc is, aLook bkX8_valid pc = some is → aBlk RX8 cX8_valid 2 false pc is := aBks_ok (lk := lkX8) lkX8_ok (by decide +kernel)
def blX8_convert_0 : List aIn := [(.aload_n 0, 0, 0, 0, []), (.iload_n 1, 1, 0, 0, []), (.invokevirtual 75, 2, 0, 0, [])]
def blX8_convert_5 : List aIn := [(.astore_n 3, 3, 0, 0, []), (.aload_n 0, 0, 0, 0, []), (.iload_n 2, 2, 0, 0, []), (.invokevirtual 75, 2, 0, 0, [])]
def blX8_convert_11 : List aIn := [(.astore 4, 4, 0, 0, []), (.aload_n 0, 0, 0, 0, []), (.getfield 18, 9, 2, 2, []), (.aload_n 3, 3, 0, 0, []), (.aload_n 0, 0, 0, 0, []), (.getfield 39, 9, 5, 2, []), (.invokevirtual 83, 3, 0, 0, [])]
def blX8_convert_25 : List aIn := [(.ifCond .ne 5, 30, 0, 0, [])]
def blX8_convert_28 : List aIn := [(.iconst (-1), 1, 1, 0, []), (.ireturn, 0, 0, 0, [])]
def blX8_convert_30 : List aIn := [(.aload_n 0, 0, 0, 0, []), (.getfield 32, 9, 4, 2, []), (.aload 4, 4, 0, 0, []), (.aload_n 0, 0, 0, 0, []), (.getfield 39, 9, 5, 2, []), (.invokevirtual 107, 3, 0, 0, [])]
def blX8_convert_43 : List aIn := [(.ifCond .eq 7, 50, 0, 0, [])]
def blX8_convert_46 : List aIn := [(.iconst 1, 1, 0, 0, []), (.goto 4, 51, 0, 0, [])]
def blX8_convert_50 : List aIn := [(.iconst 0, 0, 0, 0, [])]
def blX8_convert_51 : List aIn := [(.ireturn, 0, 0, 0, [])]
def bkX8_convert : List (Nat × List aIn) := [(0, blX8_convert_0), (5, blX8_convert_5), (11, blX8_convert_11), (25, blX8_convert_25), (28, blX8_convert_28), (30, blX8_convert_30), (43, blX8_convert_43), (46, blX8_convert_46), (50, blX8_convert_50), (51, blX8_convert_51)]
theorem bqX8_convert_0 : aLook bkX8_convert 0 = some blX8_convert_0 := rfl
theorem bqX8_convert_5 : aLook bkX8_convert 5 = some blX8_convert_5 := rfl
theorem bqX8_convert_11 : aLook bkX8_convert 11 = some blX8_convert_11 := rfl
theorem bqX8_convert_25 : aLook bkX8_convert 25 = some blX8_convert_25 := rfl
theorem bqX8_convert_28 : aLook bkX8_convert 28 = some blX8_convert_28 := rfl
theorem bqX8_convert_30 : aLook bkX8_convert 30 = some blX8_convert_30 := rfl
theorem bqX8_convert_43 : aLook bkX8_convert 43 = some blX8_convert_43 := rfl
theorem bqX8_convert_46 : aLook bkX8_convert 46 = some blX8_convert_46 := rfl
theorem bqX8_convert_50 : aLook bkX8_convert 50 = some blX8_convert_50 := rfl
theorem bqX8_convert_51 : aLook bkX8_convert 51 = some blX8_convert_51 := rfl
theorem boX8_convert : ∀ pc is, aLook bkX8_convert pc = some is → aBlk RX8 cX8_convert 5 false pc is := aBks_ok (lk := lkX8) lkX8_ok (by decide +kernel)
def blX8_digit_0 : List aIn := [(.aload_n 0, 0, 0, 0, []), (.iload_n 1, 1, 0, 0, []), (.invokevirtual 75, 2, 0, 0, [])]
def blX8_digit_5 : List aIn := [(.astore_n 3, 3, 0, 0, []), (.iload_n 2, 2, 0, 0, []), (.ifCond .lt 31, 38, 0, 0, [])]
def blX8_digit_10 : List aIn := [(.iload_n 2, 2, 0, 0, []), (.bipush 39, 39, 0, 0, []), (.if_icmp .ge 25, 38, 0, 0, [])]
def blX8_digit_16 : List aIn := [(.aload_n 3, 3, 0, 0, []), (.invokevirtual 110, 1, 0, 0, [])]
def blX8_digit_20 : List aIn := [(.ifCond .ne 18, 38, 0, 0, [])]
def blX8_digit_23 : List aIn := [(.aload_n 0, 0, 0, 0, []), (.getfield 18, 9, 2, 2, []), (.aload_n 3, 3, 0, 0, []), (.aload_n 0, 0, 0, 0, []), (.getfield 39, 9, 5, 2, []), (.invokevirtual 83, 3, 0, 0, [])]
def blX8_digit_35 : List aIn := [(.ifCond .ne 5, 40, 0, 0, [])]
def blX8_digit_38 : List aIn := [(.iconst (-1), 1, 1, 0, []), (.ireturn, 0, 0, 0, [])]
def blX8_digit_40 : List aIn := [(.iconst 0, 0, 0, 0, []), (.istore 4, 4, 0, 0, [])]
def blX8_digit_43 : List aIn := [(.iload 4, 4, 0, 0, []), (.iload_n 2, 2, 0, 0, []), (.if_icmp .ge 20, 66, 0, 0, [])]
def blX8_digit_49 : List aIn := [(.aload_n 0, 0, 0, 0, []), (.getfield 39, 9, 5, 2, []), (.getfield 114, 3, 1, 2, []), (.invokevirtual 118, 1, 0, 0, [])]
def blX8_digit_59 : List aIn := [(.pop, 0, 0, 0, []), (.iinc 4 1, 4, 0, 0, []), (.goto (-20), 43, 0, 0, [])]
def blX8_digit_66 : List aIn := [(.aload_n 0, 0, 0, 0, []), (.getfield 39, 9, 5, 2, []), (.getfield 114, 3, 1, 2, []), (.invokevirtual 118, 1, 0, 0, [])]
def blX8_digit_76 : List aIn := [(.ireturn, 0, 0, 0, [])]
def bkX8_digit : List (Nat × List aIn) := [(0, blX8_digit_0), (5, blX8_digit_5), (10, blX8_digit_10), (16, blX8_digit_16), (20, blX8_digit_20), (23, blX8_digit_23), (35, blX8_digit_35), (38, blX8_digit_38), (40, blX8_digit_40), (43, blX8_digit_43), (49, blX8_digit_49), (59, blX8_digit_59), (66, blX8_digit_66), (76, blX8_digit_76)]
theorem bqX8_digit_0 : aLook bkX8_digit 0 = some blX8_digit_0 := rfl
theorem bqX8_digit_5 : aLook bkX8_digit 5 = some blX8_digit_5 := rfl
theorem bqX8_digit_10 : aLook bkX8_digit 10 = some blX8_digit_10 := rfl
theorem bqX8_digit_16 : aLook bkX8_digit 16 = some blX8_digit_16 := rfl
theorem bqX8_digit_20 : aLook bkX8_digit 20 = some blX8_digit_20 := rfl
theorem bqX8_digit_23 : aLook bkX8_digit 23 = some blX8_digit_23 := rfl
theorem bqX8_digit_35 : aLook bkX8_digit 35 = some blX8_digit_35 := rfl
theorem bqX8_digit_38 : aLook bkX8_digit 38 = some blX8_digit_38 := rfl
theorem bqX8_digit_40 : aLook bkX8_digit 40 = some blX8_digit_40 := rfl
theorem bqX8_digit_43 : aLook bkX8_digit 43 = some blX8_digit_43 := rfl
theorem bqX8_digit_49 : aLook bkX8_digit 49 = some blX8_digit_49 := rfl
theorem bqX8_digit_59 : aLook bkX8_digit 59 = some blX8_digit_59 := rfl
theorem bqX8_digit_66 : aLook bkX8_digit 66 = some blX8_digit_66 := rfl
theorem bqX8_digit_76 : aLook bkX8_digit 76 = some blX8_digit_76 := rfl
theorem boX8_digit : ∀ pc is, aLook bkX8_digit pc = some is → aBlk RX8 cX8_digit 5 false pc is := aBks_ok (lk := lkX8) lkX8_ok (by decide +kernel)
def blX8_round_0 : List aIn := [(.aload_n 0, 0, 0, 0, []), (.iload_n 1, 1, 0, 0, []), (.invokevirtual 75, 2, 0, 0, [])]
def blX8_round_5 : List aIn := [(.astore_n 3, 3, 0, 0, []), (.iload_n 2, 2, 0, 0, []), (.ifCond .lt 9, 16, 0, 0, [])]
def blX8_round_10 : List aIn := [(.iload_n 2, 2, 0, 0, []), (.bipush 7, 7, 0, 0, []), (.if_icmp .le 5, 18, 0, 0, [])]
def blX8_round_16 : List aIn := [(.iconst (-1), 1, 1, 0, []), (.ireturn, 0, 0, 0, [])]
def blX8_round_18 : List aIn := [(.aload_n 3, 3, 0, 0, []), (.getfield 124, 5, 4, 0, []), (.istore 4, 4, 0, 0, []), (.aload_n 3, 3, 0, 0, []), (.iload_n 2, 2, 0, 0, []), (.putfield 124, 5, 4, 0, []), (.iload 4, 4, 0, 0, []), (.ireturn, 0, 0, 0, [])]
def bkX8_round : List (Nat × List aIn) := [(0, blX8_round_0), (5, blX8_round_5), (10, blX8_round_10), (16, blX8_round_16), (18, blX8_round_18)]
theorem bqX8_round_0 : aLook bkX8_round 0 = some blX8_round_0 := rfl
theorem bqX8_round_5 : aLook bkX8_round 5 = some blX8_round_5 := rfl
theorem bqX8_round_10 : aLook bkX8_round 10 = some blX8_round_10 := rfl
theorem bqX8_round_16 : aLook bkX8_round 16 = some blX8_round_16 := rfl
theorem bqX8_round_18 : aLook bkX8_round 18 = some blX8_round_18 := rfl
theorem boX8_round : ∀ pc is, aLook bkX8_round pc = some is → aBlk RX8 cX8_round 5 false pc is := aBks_ok (lk := lkX8) lkX8_ok (by decide +kernel)
def blX8_half_0 : List aIn := [(.aload_n 0, 0, 0, 0, []), (.getfield 18, 9, 2, 2, []), (.aload_n 0, 0, 0, 0, []), (.iload_n 1, 1, 0, 0, []), (.invokevirtual 75, 2, 0, 0, [])]
def blX8_half_9 : List aIn := [(.aload_n 0, 0, 0, 0, []), (.getfield 39, 9, 5, 2, []), (.invokevirtual 83, 3, 0, 0, [])]
def blX8_half_16 : List aIn := [(.ifCond .ne 5, 21, 0, 0, [])]
def blX8_half_19 : List aIn := [(.iconst 0, 0, 0, 0, []), (.ireturn, 0, 0, 0, [])]
def blX8_half_21 : List aIn := [(.aload_n 0, 0, 0, 0, []), (.getfield 25, 9, 3, 2, []), (.aload_n 0, 0, 0, 0, []), (.getfield 39, 9, 5, 2, []), (.invokevirtual 87, 2, 0, 0, [])]
def blX8_half_32 : List aIn := [(.l2i, 0, 0, 0, []), (.i2s, 0, 0, 0, []), (.ireturn, 0, 0, 0, [])]
def bkX8_half : List (Nat × List aIn) := [(0, blX8_half_0), (9, blX8_half_9), (16, blX8_half_16), (19, blX8_half_19), (21, blX8_half_21), (32, blX8_half_32)]
theorem bqX8_half_0 : aLook bkX8_half 0 = some blX8_half_0 := rfl
theorem bqX8_half_9 : aLook bkX8_half 9 = some blX8_half_9 := rfl
theorem bqX8_half_16 : aLook bkX8_half 16 = some blX8_half_16 := rfl
theorem bqX8_half_19 : aLook bkX8_half 19 = some blX8_half_19 := rfl
theorem bqX8_half_21 : aLook bkX8_half 21 = some blX8_half_21 := rfl
theorem bqX8_half_32 : aLook bkX8_half 32 = some blX8_half_32 := rfl
theorem boX8_half : ∀ pc is, aLook bkX8_half pc = some is → aBlk RX8 cX8_half 2 false pc is := aBks_ok (lk := lkX8) lkX8_ok (by decide +kernel)
def blX8_find_0 : List aIn := [(.iload_n 1, 1, 0, 0, []), (.ifCond .lt 20, 21, 0, 0, [])]
def blX8_find_4 : List aIn := [(.iload_n 1, 1, 0, 0, []), (.aload_n 0, 0, 0, 0, []), (.getfield 56, 9, 1, 0, []), (.if_icmp .ge 12, 21, 0, 0, [])]
def blX8_find_12 : List aIn := [(.iload_n 1, 1, 0, 0, []), (.aload_n 0, 0, 0, 0, []), (.getfield 11, 9, 0, 2, []), (.arraylength, 0, 0, 0, []), (.if_icmp .lt 13, 31, 0, 0, [])]
def blX8_find_21 : List aIn := [(.new 127, 0, 0, 2, [])]
def blX8_find_30 : List aIn := [(.athrow, 0, 0, 0, [])]
def blX8_find_31 : List aIn := [(.aload_n 0, 0, 0, 0, []), (.getfield 11, 9, 0, 2, []), (.iload_n 1, 1, 0, 0, []), (.aaload, 0, 0, 0, []), (.areturn, 0, 0, 0, [])]
def bkX8_find : List (Nat × List aIn) := [(0, blX8_find_0), (4, blX8_find_4), (12, blX8_find_12), (21, blX8_find_21), (30, blX8_find_30), (31, blX8_find_31)]
theorem bqX8_find_0 : aLook bkX8_find 0 = some blX8_find_0 := rfl
theorem bqX8_find_4 : aLook bkX8_find 4 = some blX8_find_4 := rfl
theorem bqX8_find_12 : aLook bkX8_find 12 = some blX8_find_12 := rfl
theorem bqX8_find_21 : aLook bkX8_find 21 = some blX8_find_21 := rfl
theorem bqX8_find_30 : aLook bkX8_find 30 = some blX8_find_30 := rfl
theorem bqX8_find_31 : aLook bkX8_find 31 = some blX8_find_31 := rfl
theorem boX8_find : ∀ pc is, aLook bkX8_find pc = some is → aBlk RX8 cX8_find 2 false pc is := aBks_ok (lk := lkX8) lkX8_ok (by decide +kernel)
def blX8_findWithByte_0 : List aIn := [(.aload_n 0, 0, 0, 0, []), (.iload_n 1, 1, 0, 0, []), (.invokevirtual 75, 2, 0, 0, [])]
def blX8_findWithByte_5 : List aIn := [(.astore_n 3, 3, 0, 0, []), (.iload_n 2, 2, 0, 0, []), (.ifCond .lt 12, 19, 0, 0, [])]
def blX8_findWithByte_10 : List aIn := [(.iload_n 2, 2, 0, 0, []), (.aload_n 3, 3, 0, 0, []), (.getfield 79, 5, 3, 2, []), (.arraylength, 0, 0, 0, []), (.if_icmp .lt 13, 29, 0, 0, [])]
def blX8_findWithByte_19 : List aIn := [(.new 127, 0, 0, 2, [])]
def blX8_findWithByte_28 : List aIn := [(.athrow, 0, 0, 0, [])]
def blX8_findWithByte_29 : List aIn := [(.aload_n 3, 3, 0, 0, []), (.areturn, 0, 0, 0, [])]
def bkX8_findWithByte : List (Nat × List aIn) := [(0, blX8_findWithByte_0), (5, blX8_findWithByte_5), (10, blX8_findWithByte_10), (19, blX8_findWithByte_19), (28, blX8_findWithByte_28), (29, blX8_findWithByte_29)]
theorem bqX8_findWithByte_0 : aLook bkX8_findWithByte 0 = some blX8_findWithByte_0 := rfl
theorem bqX8_findWithByte_5 : aLook bkX8_findWithByte 5 = some blX8_findWithByte_5 := rfl
theorem bqX8_findWithByte_10 : aLook bkX8_findWithByte 10 = some blX8_findWithByte_10 := rfl
theorem bqX8_findWithByte_19 : aLook bkX8_findWithByte 19 = some blX8_findWithByte_19 := rfl
theorem bqX8_findWithByte_28 : aLook bkX8_findWithByte 28 = some blX8_findWithByte_28 := rfl
theorem bqX8_findWithByte_29 : aLook bkX8_findWithByte 29 = some blX8_findWithByte_29 := rfl
theorem boX8_findWithByte : ∀ pc is, aLook bkX8_findWithByte pc = some is → aBlk RX8 cX8_findWithByte 4 false pc is := aBks_ok (lk := lkX8) lkX8_ok (by decide +kernel)
def blX8_calculate_0 : List aIn := [(.iload_n 1, 1, 0, 0, []), (.tableswitch 206 0 6 #[43, 71, 107, 128, 148, 168, 186], 0, 207, 0, [44, 72, 108, 129, 149, 169, 187])]
def blX8_calculate_44 : List aIn := [(.aload_n 0, 0, 0, 0, []), (.getfield 25, 9, 3, 2, []), (.aload_n 0, 0, 0, 0, []), (.getfield 39, 9, 5, 2, []), (.aload_n 0, 0, 0, 0, []), (.getfield 43, 9, 6, 2, []), (.aload_n 0, 0, 0, 0, []), (.getfield 43, 9, 6, 2, []), (.getfield 134, 3, 0, 1, []), (.aload_n 0, 0, 0, 0, []), (.getfield 46, 9, 7, 2, []), (.invokevirtual 138, 5, 0, 0, [])]
def blX8_calculate_70 : List aIn := [(.iconst 1, 1, 0, 0, []), (.ireturn, 0, 0, 0, [])]
def blX8_calculate_72 : List aIn := [(.aload_n 0, 0, 0, 0, []), (.getfield 25, 9, 3, 2, []), (.aload_n 0, 0, 0, 0, []), (.getfield 39, 9, 5, 2, []), (.aload_n 0, 0, 0, 0, []), (.getfield 43, 9, 6, 2, []), (.aload_n 0, 0, 0, 0, []), (.getfield 43, 9, 6, 2, []), (.getfield 134, 3, 0, 1, []), (.ifCond .ne 7, 98, 0, 0, [])]
def blX8_calculate_94 : List aIn := [(.iconst 1, 1, 0, 0, []), (.goto 4, 99, 0, 0, [])]
def blX8_calculate_98 : List aIn := [(.iconst 0, 0, 0, 0, [])]
def blX8_calculate_99 : List aIn := [(.aload_n 0, 0, 0, 0, []), (.getfield 46, 9, 7, 2, []), (.invokevirtual 138, 5, 0, 0, [])]
def blX8_calculate_106 : List aIn := [(.iconst 1, 1, 0, 0, []), (.ireturn, 0, 0, 0, [])]
def blX8_calculate_108 : List aIn := [(.aload_n 0, 0, 0, 0, []), (.getfield 25, 9, 3, 2, []), (.aload_n 0, 0, 0, 0, []), (.getfield 39, 9, 5, 2, []), (.aload_n 0, 0, 0, 0, []), (.getfield 43, 9, 6, 2, []), (.aload_n 0, 0, 0, 0, []), (.getfield 46, 9, 7, 2, []), (.invokevirtual 142, 4, 0, 0, [])]
def blX8_calculate_127 : List aIn := [(.iconst 1, 1, 0, 0, []), (.ireturn, 0, 0, 0, [])]
def blX8_calculate_129 : List aIn := [(.aload_n 0, 0, 0, 0, []), (.getfield 25, 9, 3, 2, []), (.aload_n 0, 0, 0, 0, []), (.getfield 39, 9, 5, 2, []), (.aload_n 0, 0, 0, 0, []), (.getfield 43, 9, 6, 2, []), (.aload_n 0, 0, 0, 0, []), (.getfield 46, 9, 7, 2, []), (.invokevirtual 146, 4, 0, 0, [])]
def blX8_calculate_148 : List aIn := [(.ireturn, 0, 0, 0, [])]
def blX8_calculate_149 : List aIn := [(.aload_n 0, 0, 0, 0, []), (.getfield 25, 9, 3, 2, []), (.aload_n 0, 0, 0, 0, []), (.getfield 39, 9, 5, 2, []), (.aload_n 0, 0, 0, 0, []), (.getfield 43, 9, 6, 2, []), (.aload_n 0, 0, 0, 0, []), (.getfield 46, 9, 7, 2, []), (.invokevirtual 150, 4, 0, 0, [])]
def blX8_calculate_168 : List aIn := [(.ireturn, 0, 0, 0, [])]
def blX8_calculate_169 : List aIn := [(.aload_n 0, 0, 0, 0, []), (.getfield 25, 9, 3, 2, []), (.aload_n 0, 0, 0, 0, []), (.getfield 39, 9, 5, 2, []), (.iload_n 2, 2, 0, 0, []), (.aload_n 0, 0, 0, 0, []), (.getfield 46, 9, 7, 2, []), (.invokevirtual 153, 4, 0, 0, [])]
def blX8_calculate_185 : List aIn := [(.iconst 1, 1, 0, 0, []), (.ireturn, 0, 0, 0, [])]
def blX8_calculate_187 : List aIn := [(.aload_n 0, 0, 0, 0, []), (.getfield 25, 9, 3, 2, []), (.aload_n 0, 0, 0, 0, []), (.getfield 39, 9, 5, 2, []), (.aload_n 0, 0, 0, 0, []), (.getfield 43, 9, 6, 2, []), (.aload_n 0, 0, 0, 0, []), (.getfield 46, 9, 7, 2, []), (.invokevirtual 157, 4, 0, 0, [])]
def blX8_calculate_206 : List aIn := [(.ireturn, 0, 0, 0, [])]
def blX8_calculate_207 : List aIn := [(.aload_n 0, 0, 0, 0, []), (.getfield 25, 9, 3, 2, []), (.aload_n 0, 0, 0, 0, []), (.getfield 39, 9, 5, 2, []), (.aload_n 0, 0, 0, 0, []), (.getfield 43, 9, 6, 2, []), (.aload_n 0, 0, 0, 0, []), (.getfield 46, 9, 7, 2, []), (.invokevirtual 160, 4, 0, 0, [])]
def blX8_calculate_226 : List aIn := [(.ireturn, 0, 0, 0, [])]
def bkX8_calculate : List (Nat × List aIn) := [(0, blX8_calculate_0), (44, blX8_calculate_44), (70, blX8_calculate_70), (72, blX8_calculate_72), (94, blX8_calculate_94), (98, blX8_calculate_98), (99, blX8_calculate_99), (106, blX8_calculate_106), (108, blX8_calculate_108), (127, blX8_calculate_127), (129, blX8_calculate_129), (148, blX8_calculate_148), (149, blX8_calculate_149), (168, blX8_calculate_168), (169, blX8_calculate_169), (185, blX8_calculate_185), (187, blX8_calculate_187), (206, blX8_calculate_206), (207, blX8_calculate_207), (226, blX8_calculate_226)]
theorem bqX8_calculate_0 : aLook bkX8_calculate 0 = some blX8_calculate_0 := rfl
theorem bqX8_calculate_44 : aLook bkX8_calculate 44 = some blX8_calculate_44 := rfl
theorem bqX8_calculate_70 : aLook bkX8_calculate 70 = some blX8_calculate_70 := rfl
theorem bqX8_calculate_72 : aLook bkX8_calculate 72 = some blX8_calculate_72 := rfl
theorem bqX8_calculate_94 : aLook bkX8_calculate 94 = some blX8_calculate_94 := rfl
theorem bqX8_calculate_98 : aLook bkX8_calculate 98 = some blX8_calculate_98 := rfl
theorem bqX8_calculate_99 : aLook bkX8_calculate 99 = some blX8_calculate_99 := rfl
theorem bqX8_calculate_106 : aLook bkX8_calculate 106 = some blX8_calculate_106 := rfl
theorem bqX8_calculate_108 : aLook bkX8_calculate 108 = some blX8_calculate_108 := rfl
theorem bqX8_calculate_127 : aLook bkX8_calculate 127 = some blX8_calculate_127 := rfl
theorem bqX8_calculate_129 : aLook bkX8_calculate 129 = some blX8_calculate_129 := rfl
theorem bqX8_calculate_148 : aLook bkX8_calculate 148 = some blX8_calculate_148 := rfl
theorem bqX8_calculate_149 : aLook bkX8_calculate 149 = some blX8_calculate_149 := rfl
theorem bqX8_calculate_168 : aLook bkX8_calculate 168 = some blX8_calculate_168 := rfl
theorem bqX8_calculate_169 : aLook bkX8_calculate 169 = some blX8_calculate_169 := rfl
theorem bqX8_calculate_185 : aLook bkX8_calculate 185 = some blX8_calculate_185 := rfl
theorem bqX8_calculate_187 : aLook bkX8_calculate 187 = some blX8_calculate_187 := rfl
theorem bqX8_calculate_206 : aLook bkX8_calculate 206 = some blX8_calculate_206 := rfl
theorem bqX8_calculate_207 : aLook bkX8_calculate 207 = some blX8_calculate_207 := rfl
theorem bqX8_calculate_226 : aLook bkX8_calculate 226 = some blX8_calculate_226 := rfl
theorem boX8_calculate : ∀ pc is, aLook bkX8_calculate pc = some is → aBlk RX8 cX8_calculate 3 false pc is := aBks_ok (lk := lkX8) lkX8_ok (by decide +kernel)
