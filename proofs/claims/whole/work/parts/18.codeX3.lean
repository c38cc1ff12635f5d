/-! code of PackedDecimals$Natural (printed by gen.py) -/
def blX3_init_0 : List aIn := [(.aload_n 0, 0, 0, 0, []), (.invokespecial 1, 1, 0, 0, [])]
def blX3_init_4 : List aIn := [(.aload_n 0, 0, 0, 0, []), (.bipush 20, 20, 0, 0, []), (.newarray .int, 0, 0, 0, []), (.putfield 9, 4, 0, 2, []), (.return_, 0, 0, 0, [])]
def bkX3_init : List (Nat × List aIn) := [(0, blX3_init_0), (4, blX3_init_4)]
theorem bqX3_init_0 : aLook bkX3_init 0 = some blX3_init_0 := rfl
theorem bqX3_init_4 : aLook bkX3_init 4 = some blX3_init_4 := rfl
theorem boX3_init : ∀ pc is, aLook bkX3_init pc = some is → aBlk RX3 cX3_init 1 true pc is := aBks_ok (lk := lkX3i) lkX3i_ok (by decide +kernel)
def blX3_clear_0 : List aIn := [(.iconst 0, 0, 0, 0, []), (.istore_n 1, 1, 0, 0, [])]
def blX3_clear_2 : List aIn := [(.iload_n 1, 1, 0, 0, []), (.aload_n 0, 0, 0, 0, []), (.getfield 13, 4, 1, 0, []), (.if_icmp .ge 16, 23, 0, 0, [])]
def blX3_clear_10 : List aIn := [(.aload_n 0, 0, 0, 0, []), (.getfield 9, 4, 0, 2, []), (.iload_n 1, 1, 0, 0, []), (.iconst 0, 0, 0, 0, []), (.iastore, 0, 0, 0, []), (.iinc 1 1, 1, 0, 0, []), (.goto (-18), 2, 0, 0, [])]
def blX3_clear_23 : List aIn := [(.aload_n 0, 0, 0, 0, []), (.iconst 0, 0, 0, 0, []), (.putfield 13, 4, 1, 0, []), (.return_, 0, 0, 0, [])]
def bkX3_clear : List (Nat × List aIn) := [(0, blX3_clear_0), (2, blX3_clear_2), (10, blX3_clear_10), (23, blX3_clear_23)]
theorem bqX3_clear_0 : aLook bkX3_clear 0 = some blX3_clear_0 := rfl
theorem bqX3_clear_2 : aLook bkX3_clear 2 = some blX3_clear_2 := rfl
theorem bqX3_clear_10 : aLook bkX3_clear 10 = some blX3_clear_10 := rfl
theorem bqX3_clear_23 : aLook bkX3_clear 23 = some blX3_clear_23 := rfl
theorem boX3_clear : ∀ pc is, aLook bkX3_clear pc = some is → aBlk RX3 cX3_clear 2 false pc is := aBks_ok (lk := lkX3) lkX3_ok (by decide +kernel)
def blX3_become_0 : List aIn := [(.aload_n 0, 0, 0, 0, []), (.invokevirtual 17, 1, 0, 0, [])]
def blX3_become_4 : List aIn := [(.aload_n 0, 0, 0, 0, []), (.getfield 9, 4, 0, 2, []), (.iconst 0, 0, 0, 0, []), (.lload_n 1, 1, 0, 0, []), (.l2i, 0, 0, 0, []), (.ldc 20, 2147483647, 0, 0, []), (.iand, 0, 0, 0, []), (.iastore, 0, 0, 0, []), (.aload_n 0, 0, 0, 0, []), (.getfield 9, 4, 0, 2, []), (.iconst 1, 1, 0, 0, []), (.lload_n 1, 1, 0, 0, []), (.bipush 31, 31, 0, 0, []), (.lushr, 0, 0, 0, []), (.l2i, 0, 0, 0, []), (.ldc 20, 2147483647, 0, 0, []), (.iand, 0, 0, 0, []), (.iastore, 0, 0, 0, []), (.aload_n 0, 0, 0, 0, []), (.getfield 9, 4, 0, 2, []), (.iconst 2, 2, 0, 0, []), (.lload_n 1, 1, 0, 0, []), (.bipush 62, 62, 0, 0, []), (.lushr, 0, 0, 0, []), (.l2i, 0, 0, 0, []), (.iastore, 0, 0, 0, []), (.aload_n 0, 0, 0, 0, []), (.iconst 3, 3, 0, 0, []), (.invokevirtual 21, 2, 0, 0, [])]
def blX3_become_45 : List aIn := [(.return_, 0, 0, 0, [])]
def bkX3_become : List (Nat × List aIn) := [(0, blX3_become_0), (4, blX3_become_4), (45, blX3_become_45)]
theorem bqX3_become_0 : aLook bkX3_become 0 = some blX3_become_0 := rfl
theorem bqX3_become_4 : aLook bkX3_become 4 = some blX3_become_4 := rfl
theorem bqX3_become_45 : aLook bkX3_become 45 = some blX3_become_45 := rfl
theorem boX3_become : ∀ pc is, aLook bkX3_become pc = some is → aBlk RX3 cX3_become 3 false pc is := aBks_ok (lk := lkX3) lkX3_ok (by decide +kernel)
def blX3_copy_0 : List aIn := [(.aload_n 0, 0, 0, 0, []), (.invokevirtual 17, 1, 0, 0, [])]
def blX3_copy_4 : List aIn := [(.iconst 0, 0, 0, 0, []), (.istore_n 2, 2, 0, 0, [])]
def blX3_copy_6 : List aIn := [(.iload_n 2, 2, 0, 0, []), (.aload_n 1, 1, 0, 0, []), (.getfield 13, 4, 1, 0, []), (.if_icmp .ge 21, 32, 0, 0, [])]
def blX3_copy_14 : List aIn := [(.aload_n 0, 0, 0, 0, []), (.getfield 9, 4, 0, 2, []), (.iload_n 2, 2, 0, 0, []), (.aload_n 1, 1, 0, 0, []), (.getfield 9, 4, 0, 2, []), (.iload_n 2, 2, 0, 0, []), (.iaload, 0, 0, 0, []), (.iastore, 0, 0, 0, []), (.iinc 2 1, 2, 0, 0, []), (.goto (-23), 6, 0, 0, [])]
def blX3_copy_32 : List aIn := [(.aload_n 0, 0, 0, 0, []), (.aload_n 1, 1, 0, 0, []), (.getfield 13, 4, 1, 0, []), (.putfield 13, 4, 1, 0, []), (.return_, 0, 0, 0, [])]
def bkX3_copy : List (Nat × List aIn) := [(0, blX3_copy_0), (4, blX3_copy_4), (6, blX3_copy_6), (14, blX3_copy_14), (32, blX3_copy_32)]
theorem bqX3_copy_0 : aLook bkX3_copy 0 = some blX3_copy_0 := rfl
theorem bqX3_copy_4 : aLook bkX3_copy 4 = some blX3_copy_4 := rfl
theorem bqX3_copy_6 : aLook bkX3_copy 6 = some blX3_copy_6 := rfl
theorem bqX3_copy_14 : aLook bkX3_copy 14 = some blX3_copy_14 := rfl
theorem bqX3_copy_32 : aLook bkX3_copy 32 = some blX3_copy_32 := rfl
theorem boX3_copy : ∀ pc is, aLook bkX3_copy pc = some is → aBlk RX3 cX3_copy 3 false pc is := aBks_ok (lk := lkX3) lkX3_ok (by decide +kernel)
def blX3_isZero_0 : List aIn := [(.aload_n 0, 0, 0, 0, []), (.getfield 13, 4, 1, 0, []), (.ifCond .ne 7, 11, 0, 0, [])]
def blX3_isZero_7 : List aIn := [(.iconst 1, 1, 0, 0, []), (.goto 4, 12, 0, 0, [])]
def blX3_isZero_11 : List aIn := [(.iconst 0, 0, 0, 0, [])]
def blX3_isZero_12 : List aIn := [(.ireturn, 0, 0, 0, [])]
def bkX3_isZero : List (Nat × List aIn) := [(0, blX3_isZero_0), (7, blX3_isZero_7), (11, blX3_isZero_11), (12, blX3_isZero_12)]
theorem bqX3_isZero_0 : aLook bkX3_isZero 0 = some blX3_isZero_0 := rfl
theorem bqX3_isZero_7 : aLook bkX3_isZero 7 = some blX3_isZero_7 := rfl
theorem bqX3_isZero_11 : aLook bkX3_isZero 11 = some blX3_isZero_11 := rfl
theorem bqX3_isZero_12 : aLook bkX3_isZero 12 = some blX3_isZero_12 := rfl
theorem boX3_isZero : ∀ pc is, aLook bkX3_isZero pc = some is → aBlk RX3 cX3_isZero 1 false pc is := aBks_ok (lk := lkX3) lkX3_ok (by decide +kernel)
def blX3_isOdd_0 : List aIn := [(.aload_n 0, 0, 0, 0, []), (.getfield 9, 4, 0, 2, []), (.iconst 0, 0, 0, 0, []), (.iaload, 0, 0, 0, []), (.iconst 1, 1, 0, 0, []), (.iand, 0, 0, 0, []), (.iconst 1, 1, 0, 0, []), (.if_icmp .ne 7, 16, 0, 0, [])]
def blX3_isOdd_12 : List aIn := [(.iconst 1, 1, 0, 0, []), (.goto 4, 17, 0, 0, [])]
def blX3_isOdd_16 : List aIn := [(.iconst 0, 0, 0, 0, [])]
def blX3_isOdd_17 : List aIn := [(.ireturn, 0, 0, 0, [])]
def bkX3_isOdd : List (Nat × List aIn) := [(0, blX3_isOdd_0), (12, blX3_isOdd_12), (16, blX3_isOdd_16), (17, blX3_isOdd_17)]
theorem bqX3_isOdd_0 : aLook bkX3_isOdd 0 = some blX3_isOdd_0 := rfl
theorem bqX3_isOdd_12 : aLook bkX3_isOdd 12 = some blX3_isOdd_12 := rfl
theorem bqX3_isOdd_16 : aLook bkX3_isOdd 16 = some blX3_isOdd_16 := rfl
theorem bqX3_isOdd_17 : aLook bkX3_isOdd 17 = some blX3_isOdd_17 := rfl
theorem boX3_isOdd : ∀ pc is, aLook bkX3_isOdd pc = some is → aBlk RX3 cX3_isOdd 1 false pc is := aBks_ok (lk := lkX3) lkX3_ok (by decide +kernel)
def blX3_lowBits_0 : List aIn := [(.aload_n 0, 0, 0, 0, []), (.getfield 9, 4, 0, 2, []), (.iconst 0, 0, 0, 0, []), (.iaload, 0, 0, 0, []), (.i2l, 0, 0, 0, []), (.aload_n 0, 0, 0, 0, []), (.getfield 9, 4, 0, 2, []), (.iconst 1, 1, 0, 0, []), (.iaload, 0, 0, 0, []), (.i2l, 0, 0, 0, []), (.bipush 31, 31, 0, 0, []), (.lshl, 0, 0, 0, []), (.lor, 0, 0, 0, []), (.aload_n 0, 0, 0, 0, []), (.getfield 9, 4, 0, 2, []), (.iconst 2, 2, 0, 0, []), (.iaload, 0, 0, 0, []), (.i2l, 0, 0, 0, []), (.bipush 62, 62, 0, 0, []), (.lshl, 0, 0, 0, []), (.lor, 0, 0, 0, []), (.lreturn, 0, 0, 0, [])]
def bkX3_lowBits : List (Nat × List aIn) := [(0, blX3_lowBits_0)]
theorem bqX3_lowBits_0 : aLook bkX3_lowBits 0 = some blX3_lowBits_0 := rfl
theorem boX3_lowBits : ∀ pc is, aLook bkX3_lowBits pc = some is → aBlk RX3 cX3_lowBits 1 false pc is := aBks_ok (lk := lkX3) lkX3_ok (by decide +kernel)
def blX3_bitLength_0 : List aIn := [(.aload_n 0, 0, 0, 0, []), (.getfield 13, 4, 1, 0, []), (.ifCond .ne 7, 11, 0, 0, [])]
def blX3_bitLength_7 : List aIn := [(.iconst 0, 0, 0, 0, []), (.goto 17, 25, 0, 0, [])]
def blX3_bitLength_11 : List aIn := [(.aload_n 0, 0, 0, 0, []), (.getfield 13, 4, 1, 0, []), (.iconst 1, 1, 0, 0, []), (.isub, 0, 0, 0, []), (.bipush 31, 31, 0, 0, []), (.imul, 0, 0, 0, []), (.aload_n 0, 0, 0, 0, []), (.invokevirtual 25, 1, 0, 0, [])]
def blX3_bitLength_24 : List aIn := [(.iadd, 0, 0, 0, [])]
def blX3_bitLength_25 : List aIn := [(.ireturn, 0, 0, 0, [])]
def bkX3_bitLength : List (Nat × List aIn) := [(0, blX3_bitLength_0), (7, blX3_bitLength_7), (11, blX3_bitLength_11), (24, blX3_bitLength_24), (25, blX3_bitLength_25)]
theorem bqX3_bitLength_0 : aLook bkX3_bitLength 0 = some blX3_bitLength_0 := rfl
theorem bqX3_bitLength_7 : aLook bkX3_bitLength 7 = some blX3_bitLength_7 := rfl
theorem bqX3_bitLength_11 : aLook bkX3_bitLength 11 = some blX3_bitLength_11 := rfl
theorem bqX3_bitLength_24 : aLook bkX3_bitLength 24 = some blX3_bitLength_24 := rfl
theorem bqX3_bitLength_25 : aLook bkX3_bitLength 25 = some blX3_bitLength_25 := rfl
theorem boX3_bitLength : ∀ pc is, aLook bkX3_bitLength pc = some is → aBlk RX3 cX3_bitLength 1 false pc is := aBks_ok (lk := lkX3) lkX3_ok (by decide +kernel)
def blX3_topLength_0 : List aIn := [(.iconst 0, 0, 0, 0, []), (.istore_n 1, 1, 0, 0, [])]
def blX3_topLength_2 : List aIn := [(.iload_n 1, 1, 0, 0, []), (.bipush 31, 31, 0, 0, []), (.if_icmp .ge 32, 37, 0, 0, [])]
def blX3_topLength_8 : List aIn := [(.aload_n 0, 0, 0, 0, []), (.getfield 13, 4, 1, 0, []), (.ifCond .le 25, 37, 0, 0, [])]
def blX3_topLength_15 : List aIn := [(.aload_n 0, 0, 0, 0, []), (.getfield 9, 4, 0, 2, []), (.aload_n 0, 0, 0, 0, []), (.getfield 13, 4, 1, 0, []), (.iconst 1, 1, 0, 0, []), (.isub, 0, 0, 0, []), (.iaload, 0, 0, 0, []), (.iload_n 1, 1, 0, 0, []), (.ishr, 0, 0, 0, []), (.ifCond .eq 9, 37, 0, 0, [])]
def blX3_topLength_31 : List aIn := [(.iinc 1 1, 1, 0, 0, []), (.goto (-32), 2, 0, 0, [])]
def blX3_topLength_37 : List aIn := [(.iload_n 1, 1, 0, 0, []), (.ireturn, 0, 0, 0, [])]
def bkX3_topLength : List (Nat × List aIn) := [(0, blX3_topLength_0), (2, blX3_topLength_2), (8, blX3_topLength_8), (15, blX3_topLength_15), (31, blX3_topLength_31), (37, blX3_topLength_37)]
theorem bqX3_topLength_0 : aLook bkX3_topLength 0 = some blX3_topLength_0 := rfl
theorem bqX3_topLength_2 : aLook bkX3_topLength 2 = some blX3_topLength_2 := rfl
theorem bqX3_topLength_8 : aLook bkX3_topLength 8 = some blX3_topLength_8 := rfl
theorem bqX3_topLength_15 : aLook bkX3_topLength 15 = some blX3_topLength_15 := rfl
theorem bqX3_topLength_31 : aLook bkX3_topLength 31 = some blX3_topLength_31 := rfl
theorem bqX3_topLength_37 : aLook bkX3_topLength 37 = some blX3_topLength_37 := rfl
theorem boX3_topLength : ∀ pc is, aLook bkX3_topLength pc = some is → aBlk RX3 cX3_topLength 2 false pc is := aBks_ok (lk := lkX3) lkX3_ok (by decide +kernel)
def blX3_settle_0 : List aIn := [(.aload_n 0, 0, 0, 0, []), (.iload_n 1, 1, 0, 0, []), (.putfield 13, 4, 1, 0, [])]
def blX3_settle_5 : List aIn := [(.aload_n 0, 0, 0, 0, []), (.getfield 13, 4, 1, 0, []), (.ifCond .le 30, 39, 0, 0, [])]
def blX3_settle_12 : List aIn := [(.aload_n 0, 0, 0, 0, []), (.getfield 9, 4, 0, 2, []), (.aload_n 0, 0, 0, 0, []), (.getfield 13, 4, 1, 0, []), (.iconst 1, 1, 0, 0, []), (.isub, 0, 0, 0, []), (.iaload, 0, 0, 0, []), (.ifCond .ne 16, 39, 0, 0, [])]
def blX3_settle_26 : List aIn := [(.aload_n 0, 0, 0, 0, []), (.dup, 0, 0, 0, []), (.getfield 13, 4, 1, 0, []), (.iconst 1, 1, 0, 0, []), (.isub, 0, 0, 0, []), (.putfield 13, 4, 1, 0, []), (.goto (-31), 5, 0, 0, [])]
def blX3_settle_39 : List aIn := [(.return_, 0, 0, 0, [])]
def bkX3_settle : List (Nat × List aIn) := [(0, blX3_settle_0), (5, blX3_settle_5), (12, blX3_settle_12), (26, blX3_settle_26), (39, blX3_settle_39)]
theorem bqX3_settle_0 : aLook bkX3_settle 0 = some blX3_settle_0 := rfl
theorem bqX3_settle_5 : aLook bkX3_settle 5 = some blX3_settle_5 := rfl
theorem bqX3_settle_12 : aLook bkX3_settle 12 = some blX3_settle_12 := rfl
theorem bqX3_settle_26 : aLook bkX3_settle 26 = some blX3_settle_26 := rfl
theorem bqX3_settle_39 : aLook bkX3_settle 39 = some blX3_settle_39 := rfl
theorem boX3_settle : ∀ pc is, aLook bkX3_settle pc = some is → aBlk RX3 cX3_settle 2 false pc is := aBks_ok (lk := lkX3) lkX3_ok (by decide +kernel)
def blX3_against_0 : List aIn := [(.aload_n 0, 0, 0, 0, []), (.getfield 13, 4, 1, 0, []), (.aload_n 1, 1, 0, 0, []), (.getfield 13, 4, 1, 0, []), (.if_icmp .eq 20, 28, 0, 0, [])]
def blX3_against_11 : List aIn := [(.aload_n 0, 0, 0, 0, []), (.getfield 13, 4, 1, 0, []), (.aload_n 1, 1, 0, 0, []), (.getfield 13, 4, 1, 0, []), (.if_icmp .ge 7, 26, 0, 0, [])]
def blX3_against_22 : List aIn := [(.iconst (-1), 1, 1, 0, []), (.goto 4, 27, 0, 0, [])]
def blX3_against_26 : List aIn := [(.iconst 1, 1, 0, 0, [])]
def blX3_against_27 : List aIn := [(.ireturn, 0, 0, 0, [])]
def blX3_against_28 : List aIn := [(.aload_n 0, 0, 0, 0, []), (.getfield 13, 4, 1, 0, []), (.iconst 1, 1, 0, 0, []), (.isub, 0, 0, 0, []), (.istore_n 2, 2, 0, 0, [])]
def blX3_against_35 : List aIn := [(.iload_n 2, 2, 0, 0, []), (.ifCond .lt 45, 81, 0, 0, [])]
def blX3_against_39 : List aIn := [(.aload_n 0, 0, 0, 0, []), (.getfield 9, 4, 0, 2, []), (.iload_n 2, 2, 0, 0, []), (.iaload, 0, 0, 0, []), (.aload_n 1, 1, 0, 0, []), (.getfield 9, 4, 0, 2, []), (.iload_n 2, 2, 0, 0, []), (.iaload, 0, 0, 0, []), (.if_icmp .eq 24, 75, 0, 0, [])]
def blX3_against_54 : List aIn := [(.aload_n 0, 0, 0, 0, []), (.getfield 9, 4, 0, 2, []), (.iload_n 2, 2, 0, 0, []), (.iaload, 0, 0, 0, []), (.aload_n 1, 1, 0, 0, []), (.getfield 9, 4, 0, 2, []), (.iload_n 2, 2, 0, 0, []), (.iaload, 0, 0, 0, []), (.if_icmp .ge 7, 73, 0, 0, [])]
def blX3_against_69 : List aIn := [(.iconst (-1), 1, 1, 0, []), (.goto 4, 74, 0, 0, [])]
def blX3_against_73 : List aIn := [(.iconst 1, 1, 0, 0, [])]
def blX3_against_74 : List aIn := [(.ireturn, 0, 0, 0, [])]
def blX3_against_75 : List aIn := [(.iinc 2 (-1), 2, 0, 0, []), (.goto (-43), 35, 0, 0, [])]
def blX3_against_81 : List aIn := [(.iconst 0, 0, 0, 0, []), (.ireturn, 0, 0, 0, [])]
def bkX3_against : List (Nat × List aIn) := [(0, blX3_against_0), (11, blX3_against_11), (22, blX3_against_22), (26, blX3_against_26), (27, blX3_against_27), (28, blX3_against_28), (35, blX3_against_35), (39, blX3_against_39), (54, blX3_against_54), (69, blX3_against_69), (73, blX3_against_73), (74, blX3_against_74), (75, blX3_against_75), (81, blX3_against_81)]
theorem bqX3_against_0 : aLook bkX3_against 0 = some blX3_against_0 := rfl
theorem bqX3_against_11 : aLook bkX3_against 11 = some blX3_against_11 := rfl
theorem bqX3_against_22 : aLook bkX3_against 22 = some blX3_against_22 := rfl
theorem bqX3_against_26 : aLook bkX3_against 26 = some blX3_against_26 := rfl
theorem bqX3_against_27 : aLook bkX3_against 27 = some blX3_against_27 := rfl
theorem bqX3_against_28 : aLook bkX3_against 28 = some blX3_against_28 := rfl
theorem bqX3_against_35 : aLook bkX3_against 35 = some blX3_against_35 := rfl
theorem bqX3_against_39 : aLook bkX3_against 39 = some blX3_against_39 := rfl
theorem bqX3_against_54 : aLook bkX3_against 54 = some blX3_against_54 := rfl
theorem bqX3_against_69 : aLook bkX3_against 69 = some blX3_against_69 := rfl
theorem bqX3_against_73 : aLook bkX3_against 73 = some blX3_against_73 := rfl
theorem bqX3_against_74 : aLook bkX3_against 74 = some blX3_against_74 := rfl
theorem bqX3_against_75 : aLook bkX3_against 75 = some blX3_against_75 := rfl
theorem bqX3_against_81 : aLook bkX3_against 81 = some blX3_against_81 := rfl
theorem boX3_against : ∀ pc is, aLook bkX3_against pc = some is → aBlk RX3 cX3_against 3 false pc is := aBks_ok (lk := lkX3) lkX3_ok (by decide +kernel)
def blX3_timesPlus_0 : List aIn := [(.iload_n 2, 2, 0, 0, []), (.i2l, 0, 0, 0, []), (.lstore_n 3, 3, 0, 0, []), (.iconst 0, 0, 0, 0, []), (.istore 5, 5, 0, 0, [])]
def blX3_timesPlus_6 : List aIn := [(.iload 5, 5, 0, 0, []), (.aload_n 0, 0, 0, 0, []), (.getfield 13, 4, 1, 0, []), (.if_icmp .ge 40, 52, 0, 0, [])]
def blX3_timesPlus_15 : List aIn := [(.lload_n 3, 3, 0, 0, []), (.aload_n 0, 0, 0, 0, []), (.getfield 9, 4, 0, 2, []), (.iload 5, 5, 0, 0, []), (.iaload, 0, 0, 0, []), (.i2l, 0, 0, 0, []), (.iload_n 1, 1, 0, 0, []), (.i2l, 0, 0, 0, []), (.lmul, 0, 0, 0, []), (.ladd, 0, 0, 0, []), (.lstore_n 3, 3, 0, 0, []), (.aload_n 0, 0, 0, 0, []), (.getfield 9, 4, 0, 2, []), (.iload 5, 5, 0, 0, []), (.lload_n 3, 3, 0, 0, []), (.l2i, 0, 0, 0, []), (.ldc 20, 2147483647, 0, 0, []), (.iand, 0, 0, 0, []), (.iastore, 0, 0, 0, []), (.lload_n 3, 3, 0, 0, []), (.bipush 31, 31, 0, 0, []), (.lshr, 0, 0, 0, []), (.lstore_n 3, 3, 0, 0, []), (.iinc 5 1, 5, 0, 0, []), (.goto (-43), 6, 0, 0, [])]
def blX3_timesPlus_52 : List aIn := [(.lload_n 3, 3, 0, 0, []), (.lconst 0, 0, 0, 0, []), (.lcmp, 0, 0, 0, []), (.ifCond .eq 33, 88, 0, 0, [])]
def blX3_timesPlus_58 : List aIn := [(.aload_n 0, 0, 0, 0, []), (.getfield 13, 4, 1, 0, []), (.bipush 20, 20, 0, 0, []), (.if_icmp .ge 24, 88, 0, 0, [])]
def blX3_timesPlus_67 : List aIn := [(.aload_n 0, 0, 0, 0, []), (.getfield 9, 4, 0, 2, []), (.aload_n 0, 0, 0, 0, []), (.getfield 13, 4, 1, 0, []), (.lload_n 3, 3, 0, 0, []), (.l2i, 0, 0, 0, []), (.iastore, 0, 0, 0, []), (.aload_n 0, 0, 0, 0, []), (.dup, 0, 0, 0, []), (.getfield 13, 4, 1, 0, []), (.iconst 1, 1, 0, 0, []), (.iadd, 0, 0, 0, []), (.putfield 13, 4, 1, 0, [])]
def blX3_timesPlus_88 : List aIn := [(.return_, 0, 0, 0, [])]
def bkX3_timesPlus : List (Nat × List aIn) := [(0, blX3_timesPlus_0), (6, blX3_timesPlus_6), (15, blX3_timesPlus_15), (52, blX3_timesPlus_52), (58, blX3_timesPlus_58), (67, blX3_timesPlus_67), (88, blX3_timesPlus_88)]
theorem bqX3_timesPlus_0 : aLook bkX3_timesPlus 0 = some blX3_timesPlus_0 := rfl
theorem bqX3_timesPlus_6 : aLook bkX3_timesPlus 6 = some blX3_timesPlus_6 := rfl
theorem bqX3_timesPlus_15 : aLook bkX3_timesPlus 15 = some blX3_timesPlus_15 := rfl
theorem bqX3_timesPlus_52 : aLook bkX3_timesPlus 52 = some blX3_timesPlus_52 := rfl
theorem bqX3_timesPlus_58 : aLook bkX3_timesPlus 58 = some blX3_timesPlus_58 := rfl
theorem bqX3_timesPlus_67 : aLook bkX3_timesPlus 67 = some blX3_timesPlus_67 := rfl
theorem bqX3_timesPlus_88 : aLook bkX3_timesPlus 88 = some blX3_timesPlus_88 := rfl
theorem boX3_timesPlus : ∀ pc is, aLook bkX3_timesPlus pc = some is → aBlk RX3 cX3_timesPlus 6 false pc is := aBks_ok (lk := lkX3) lkX3_ok (by decide +kernel)
def blX3_timesTenTo_0 : List aIn := [(.iload_n 1, 1, 0, 0, []), (.istore_n 2, 2, 0, 0, [])]
def blX3_timesTenTo_2 : List aIn := [(.iload_n 2, 2, 0, 0, []), (.ifCond .le 24, 27, 0, 0, [])]
def blX3_timesTenTo_6 : List aIn := [(.aload_n 0, 0, 0, 0, []), (.getstatic 29, 0, 0, 0, []), (.iload_n 2, 2, 0, 0, []), (.bipush 9, 9, 0, 0, []), (.invokestatic 32, 2, 0, 0, [])]
def blX3_timesTenTo_16 : List aIn := [(.iaload, 0, 0, 0, []), (.iconst 0, 0, 0, 0, []), (.invokevirtual 38, 3, 0, 0, [])]
def blX3_timesTenTo_21 : List aIn := [(.iinc 2 (-9), 2, 0, 0, []), (.goto (-22), 2, 0, 0, [])]
def blX3_timesTenTo_27 : List aIn := [(.return_, 0, 0, 0, [])]
def bkX3_timesTenTo : List (Nat × List aIn) := [(0, blX3_timesTenTo_0), (2, blX3_timesTenTo_2), (6, blX3_timesTenTo_6), (16, blX3_timesTenTo_16), (21, blX3_timesTenTo_21), (27, blX3_timesTenTo_27)]
theorem bqX3_timesTenTo_0 : aLook bkX3_timesTenTo 0 = some blX3_timesTenTo_0 := rfl
theorem bqX3_timesTenTo_2 : aLook bkX3_timesTenTo 2 = some blX3_timesTenTo_2 := rfl
theorem bqX3_timesTenTo_6 : aLook bkX3_timesTenTo 6 = some blX3_timesTenTo_6 := rfl
theorem bqX3_timesTenTo_16 : aLook bkX3_timesTenTo 16 = some blX3_timesTenTo_16 := rfl
theorem bqX3_timesTenTo_21 : aLook bkX3_timesTenTo 21 = some blX3_timesTenTo_21 := rfl
theorem bqX3_timesTenTo_27 : aLook bkX3_timesTenTo 27 = some blX3_timesTenTo_27 := rfl
theorem boX3_timesTenTo : ∀ pc is, aLook bkX3_timesTenTo pc = some is → aBlk RX3 cX3_timesTenTo 3 false pc is := aBks_ok (lk := lkX3) lkX3_ok (by decide +kernel)
def blX3_plus_0 : List aIn := [(.aload_n 0, 0, 0, 0, []), (.getfield 13, 4, 1, 0, []), (.aload_n 1, 1, 0, 0, []), (.getfield 13, 4, 1, 0, []), (.invokestatic 42, 2, 0, 0, [])]
def blX3_plus_11 : List aIn := [(.istore_n 2, 2, 0, 0, []), (.lconst 0, 0, 0, 0, []), (.lstore_n 3, 3, 0, 0, []), (.iconst 0, 0, 0, 0, []), (.istore 5, 5, 0, 0, [])]
def blX3_plus_17 : List aIn := [(.iload 5, 5, 0, 0, []), (.iload_n 2, 2, 0, 0, []), (.if_icmp .ge 46, 66, 0, 0, [])]
def blX3_plus_23 : List aIn := [(.lload_n 3, 3, 0, 0, []), (.aload_n 0, 0, 0, 0, []), (.getfield 9, 4, 0, 2, []), (.iload 5, 5, 0, 0, []), (.iaload, 0, 0, 0, []), (.i2l, 0, 0, 0, []), (.aload_n 1, 1, 0, 0, []), (.getfield 9, 4, 0, 2, []), (.iload 5, 5, 0, 0, []), (.iaload, 0, 0, 0, []), (.i2l, 0, 0, 0, []), (.ladd, 0, 0, 0, []), (.ladd, 0, 0, 0, []), (.lstore_n 3, 3, 0, 0, []), (.aload_n 0, 0, 0, 0, []), (.getfield 9, 4, 0, 2, []), (.iload 5, 5, 0, 0, []), (.lload_n 3, 3, 0, 0, []), (.l2i, 0, 0, 0, []), (.ldc 20, 2147483647, 0, 0, []), (.iand, 0, 0, 0, []), (.iastore, 0, 0, 0, []), (.lload_n 3, 3, 0, 0, []), (.bipush 31, 31, 0, 0, []), (.lshr, 0, 0, 0, []), (.lstore_n 3, 3, 0, 0, []), (.iinc 5 1, 5, 0, 0, []), (.goto (-46), 17, 0, 0, [])]
def blX3_plus_66 : List aIn := [(.aload_n 0, 0, 0, 0, []), (.iload_n 2, 2, 0, 0, []), (.putfield 13, 4, 1, 0, []), (.lload_n 3, 3, 0, 0, []), (.lconst 0, 0, 0, 0, []), (.lcmp, 0, 0, 0, []), (.ifCond .eq 33, 107, 0, 0, [])]
def blX3_plus_77 : List aIn := [(.aload_n 0, 0, 0, 0, []), (.getfield 13, 4, 1, 0, []), (.bipush 20, 20, 0, 0, []), (.if_icmp .ge 24, 107, 0, 0, [])]
def blX3_plus_86 : List aIn := [(.aload_n 0, 0, 0, 0, []), (.getfield 9, 4, 0, 2, []), (.aload_n 0, 0, 0, 0, []), (.getfield 13, 4, 1, 0, []), (.lload_n 3, 3, 0, 0, []), (.l2i, 0, 0, 0, []), (.iastore, 0, 0, 0, []), (.aload_n 0, 0, 0, 0, []), (.dup, 0, 0, 0, []), (.getfield 13, 4, 1, 0, []), (.iconst 1, 1, 0, 0, []), (.iadd, 0, 0, 0, []), (.putfield 13, 4, 1, 0, [])]
def blX3_plus_107 : List aIn := [(.return_, 0, 0, 0, [])]
def bkX3_plus : List (Nat × List aIn) := [(0, blX3_plus_0), (11, blX3_plus_11), (17, blX3_plus_17), (23, blX3_plus_23), (66, blX3_plus_66), (77, blX3_plus_77), (86, blX3_plus_86), (107, blX3_plus_107)]
theorem bqX3_plus_0 : aLook bkX3_plus 0 = some blX3_plus_0 := rfl
theorem bqX3_plus_11 : aLook bkX3_plus 11 = some blX3_plus_11 := rfl
theorem bqX3_plus_17 : aLook bkX3_plus 17 = some blX3_plus_17 := rfl
theorem bqX3_plus_23 : aLook bkX3_plus 23 = some blX3_plus_23 := rfl
theorem bqX3_plus_66 : aLook bkX3_plus 66 = some blX3_plus_66 := rfl
theorem bqX3_plus_77 : aLook bkX3_plus 77 = some blX3_plus_77 := rfl
theorem bqX3_plus_86 : aLook bkX3_plus 86 = some blX3_plus_86 := rfl
theorem bqX3_plus_107 : aLook bkX3_plus 107 = some blX3_plus_107 := rfl
theorem boX3_plus : ∀ pc is, aLook bkX3_plus pc = some is → aBlk RX3 cX3_plus 6 false pc is := aBks_ok (lk := lkX3) lkX3_ok (by decide +kernel)
def blX3_minus_0 : List aIn := [(.lconst 0, 0, 0, 0, []), (.lstore_n 2, 2, 0, 0, []), (.iconst 0, 0, 0, 0, []), (.istore 4, 4, 0, 0, [])]
def blX3_minus_5 : List aIn := [(.iload 4, 4, 0, 0, []), (.aload_n 0, 0, 0, 0, []), (.getfield 13, 4, 1, 0, []), (.if_icmp .ge 46, 57, 0, 0, [])]
def blX3_minus_14 : List aIn := [(.lload_n 2, 2, 0, 0, []), (.aload_n 0, 0, 0, 0, []), (.getfield 9, 4, 0, 2, []), (.iload 4, 4, 0, 0, []), (.iaload, 0, 0, 0, []), (.i2l, 0, 0, 0, []), (.aload_n 1, 1, 0, 0, []), (.getfield 9, 4, 0, 2, []), (.iload 4, 4, 0, 0, []), (.iaload, 0, 0, 0, []), (.i2l, 0, 0, 0, []), (.lsub, 0, 0, 0, []), (.ladd, 0, 0, 0, []), (.lstore_n 2, 2, 0, 0, []), (.aload_n 0, 0, 0, 0, []), (.getfield 9, 4, 0, 2, []), (.iload 4, 4, 0, 0, []), (.lload_n 2, 2, 0, 0, []), (.l2i, 0, 0, 0, []), (.ldc 20, 2147483647, 0, 0, []), (.iand, 0, 0, 0, []), (.iastore, 0, 0, 0, []), (.lload_n 2, 2, 0, 0, []), (.bipush 31, 31, 0, 0, []), (.lshr, 0, 0, 0, []), (.lstore_n 2, 2, 0, 0, []), (.iinc 4 1, 4, 0, 0, []), (.goto (-49), 5, 0, 0, [])]
def blX3_minus_57 : List aIn := [(.aload_n 0, 0, 0, 0, []), (.aload_n 0, 0, 0, 0, []), (.getfield 13, 4, 1, 0, []), (.invokevirtual 21, 2, 0, 0, [])]
def blX3_minus_65 : List aIn := [(.return_, 0, 0, 0, [])]
def bkX3_minus : List (Nat × List aIn) := [(0, blX3_minus_0), (5, blX3_minus_5), (14, blX3_minus_14), (57, blX3_minus_57), (65, blX3_minus_65)]
theorem bqX3_minus_0 : aLook bkX3_minus 0 = some blX3_minus_0 := rfl
theorem bqX3_minus_5 : aLook bkX3_minus 5 = some blX3_minus_5 := rfl
theorem bqX3_minus_14 : aLook bkX3_minus 14 = some blX3_minus_14 := rfl
theorem bqX3_minus_57 : aLook bkX3_minus 57 = some blX3_minus_57 := rfl
theorem bqX3_minus_65 : aLook bkX3_minus 65 = some blX3_minus_65 := rfl
theorem boX3_minus : ∀ pc is, aLook bkX3_minus pc = some is → aBlk RX3 cX3_minus 5 false pc is := aBks_ok (lk := lkX3) lkX3_ok (by decide +kernel)
def blX3_becomeProduct_0 : List aIn := [(.aload_n 0, 0, 0, 0, []), (.invokevirtual 17, 1, 0, 0, [])]
def blX3_becomeProduct_4 : List aIn := [(.aload_n 1, 1, 0, 0, []), (.getfield 13, 4, 1, 0, []), (.aload_n 2, 2, 0, 0, []), (.getfield 13, 4, 1, 0, []), (.iadd, 0, 0, 0, []), (.bipush 20, 20, 0, 0, []), (.if_icmp .le 4, 19, 0, 0, [])]
def blX3_becomeProduct_18 : List aIn := [(.return_, 0, 0, 0, [])]
def blX3_becomeProduct_19 : List aIn := [(.iconst 0, 0, 0, 0, []), (.istore_n 3, 3, 0, 0, [])]
def blX3_becomeProduct_21 : List aIn := [(.iload_n 3, 3, 0, 0, []), (.aload_n 1, 1, 0, 0, []), (.getfield 13, 4, 1, 0, []), (.if_icmp .ge 98, 124, 0, 0, [])]
def blX3_becomeProduct_29 : List aIn := [(.lconst 0, 0, 0, 0, []), (.lstore 4, 4, 0, 0, []), (.iconst 0, 0, 0, 0, []), (.istore 6, 6, 0, 0, [])]
def blX3_becomeProduct_35 : List aIn := [(.iload 6, 6, 0, 0, []), (.aload_n 2, 2, 0, 0, []), (.getfield 13, 4, 1, 0, []), (.if_icmp .ge 63, 104, 0, 0, [])]
def blX3_becomeProduct_44 : List aIn := [(.lload 4, 4, 0, 0, []), (.aload_n 1, 1, 0, 0, []), (.getfield 9, 4, 0, 2, []), (.iload_n 3, 3, 0, 0, []), (.iaload, 0, 0, 0, []), (.i2l, 0, 0, 0, []), (.aload_n 2, 2, 0, 0, []), (.getfield 9, 4, 0, 2, []), (.iload 6, 6, 0, 0, []), (.iaload, 0, 0, 0, []), (.i2l, 0, 0, 0, []), (.lmul, 0, 0, 0, []), (.aload_n 0, 0, 0, 0, []), (.getfield 9, 4, 0, 2, []), (.iload_n 3, 3, 0, 0, []), (.iload 6, 6, 0, 0, []), (.iadd, 0, 0, 0, []), (.iaload, 0, 0, 0, []), (.i2l, 0, 0, 0, []), (.ladd, 0, 0, 0, []), (.ladd, 0, 0, 0, []), (.lstore 4, 4, 0, 0, []), (.aload_n 0, 0, 0, 0, []), (.getfield 9, 4, 0, 2, []), (.iload_n 3, 3, 0, 0, []), (.iload 6, 6, 0, 0, []), (.iadd, 0, 0, 0, []), (.lload 4, 4, 0, 0, []), (.l2i, 0, 0, 0, []), (.ldc 20, 2147483647, 0, 0, []), (.iand, 0, 0, 0, []), (.iastore, 0, 0, 0, []), (.lload 4, 4, 0, 0, []), (.bipush 31, 31, 0, 0, []), (.lshr, 0, 0, 0, []), (.lstore 4, 4, 0, 0, []), (.iinc 6 1, 6, 0, 0, []), (.goto (-66), 35, 0, 0, [])]
def blX3_becomeProduct_104 : List aIn := [(.aload_n 0, 0, 0, 0, []), (.getfield 9, 4, 0, 2, []), (.iload_n 3, 3, 0, 0, []), (.aload_n 2, 2, 0, 0, []), (.getfield 13, 4, 1, 0, []), (.iadd, 0, 0, 0, []), (.lload 4, 4, 0, 0, []), (.l2i, 0, 0, 0, []), (.iastore, 0, 0, 0, []), (.iinc 3 1, 3, 0, 0, []), (.goto (-100), 21, 0, 0, [])]
def blX3_becomeProduct_124 : List aIn := [(.aload_n 0, 0, 0, 0, []), (.aload_n 1, 1, 0, 0, []), (.getfield 13, 4, 1, 0, []), (.aload_n 2, 2, 0, 0, []), (.getfield 13, 4, 1, 0, []), (.iadd, 0, 0, 0, []), (.invokevirtual 21, 2, 0, 0, [])]
def blX3_becomeProduct_137 : List aIn := [(.return_, 0, 0, 0, [])]
def bkX3_becomeProduct : List (Nat × List aIn) := [(0, blX3_becomeProduct_0), (4, blX3_becomeProduct_4), (18, blX3_becomeProduct_18), (19, blX3_becomeProduct_19), (21, blX3_becomeProduct_21), (29, blX3_becomeProduct_29), (35, blX3_becomeProduct_35), (44, blX3_becomeProduct_44), (104, blX3_becomeProduct_104), (124, blX3_becomeProduct_124), (137, blX3_becomeProduct_137)]
theorem bqX3_becomeProduct_0 : aLook bkX3_becomeProduct 0 = some blX3_becomeProduct_0 := rfl
theorem bqX3_becomeProduct_4 : aLook bkX3_becomeProduct 4 = some blX3_becomeProduct_4 := rfl
theorem bqX3_becomeProduct_18 : aLook bkX3_becomeProduct 18 = some blX3_becomeProduct_18 := rfl
theorem bqX3_becomeProduct_19 : aLook bkX3_becomeProduct 19 = some blX3_becomeProduct_19 := rfl
theorem bqX3_becomeProduct_21 : aLook bkX3_becomeProduct 21 = some blX3_becomeProduct_21 := rfl
theorem bqX3_becomeProduct_29 : aLook bkX3_becomeProduct 29 = some blX3_becomeProduct_29 := rfl
theorem bqX3_becomeProduct_35 : aLook bkX3_becomeProduct 35 = some blX3_becomeProduct_35 := rfl
theorem bqX3_becomeProduct_44 : aLook bkX3_becomeProduct 44 = some blX3_becomeProduct_44 := rfl
theorem bqX3_becomeProduct_104 : aLook bkX3_becomeProduct 104 = some blX3_becomeProduct_104 := rfl
theorem bqX3_becomeProduct_124 : aLook bkX3_becomeProduct 124 = some blX3_becomeProduct_124 := rfl
theorem bqX3_becomeProduct_137 : aLook bkX3_becomeProduct 137 = some blX3_becomeProduct_137 := rfl
theorem boX3_becomeProduct : ∀ pc is, aLook bkX3_becomeProduct pc = some is → aBlk RX3 cX3_becomeProduct 7 false pc is := aBks_ok (lk := lkX3) lkX3_ok (by decide +kernel)
def blX3_shiftLeft_0 : List aIn := [(.iload_n 1, 1, 0, 0, []), (.bipush 31, 31, 0, 0, []), (.idiv, 0, 0, 0, []), (.istore_n 2, 2, 0, 0, []), (.iload_n 1, 1, 0, 0, []), (.bipush 31, 31, 0, 0, []), (.irem, 0, 0, 0, []), (.istore_n 3, 3, 0, 0, []), (.iload_n 1, 1, 0, 0, []), (.ifCond .le 14, 25, 0, 0, [])]
def blX3_shiftLeft_14 : List aIn := [(.aload_n 0, 0, 0, 0, []), (.getfield 13, 4, 1, 0, []), (.iload_n 2, 2, 0, 0, []), (.iadd, 0, 0, 0, []), (.bipush 20, 20, 0, 0, []), (.if_icmp .lt 4, 26, 0, 0, [])]
def blX3_shiftLeft_25 : List aIn := [(.return_, 0, 0, 0, [])]
def blX3_shiftLeft_26 : List aIn := [(.aload_n 0, 0, 0, 0, []), (.getfield 13, 4, 1, 0, []), (.istore 4, 4, 0, 0, [])]
def blX3_shiftLeft_32 : List aIn := [(.iload 4, 4, 0, 0, []), (.ifCond .lt 61, 95, 0, 0, [])]
def blX3_shiftLeft_37 : List aIn := [(.iload 4, 4, 0, 0, []), (.ifCond .le 16, 55, 0, 0, [])]
def blX3_shiftLeft_42 : List aIn := [(.aload_n 0, 0, 0, 0, []), (.getfield 9, 4, 0, 2, []), (.iload 4, 4, 0, 0, []), (.iconst 1, 1, 0, 0, []), (.isub, 0, 0, 0, []), (.iaload, 0, 0, 0, []), (.i2l, 0, 0, 0, []), (.goto 4, 56, 0, 0, [])]
def blX3_shiftLeft_55 : List aIn := [(.lconst 0, 0, 0, 0, [])]
def blX3_shiftLeft_56 : List aIn := [(.lstore 5, 5, 0, 0, []), (.aload_n 0, 0, 0, 0, []), (.getfield 9, 4, 0, 2, []), (.iload 4, 4, 0, 0, []), (.iload_n 2, 2, 0, 0, []), (.iadd, 0, 0, 0, []), (.aload_n 0, 0, 0, 0, []), (.getfield 9, 4, 0, 2, []), (.iload 4, 4, 0, 0, []), (.iaload, 0, 0, 0, []), (.i2l, 0, 0, 0, []), (.iload_n 3, 3, 0, 0, []), (.lshl, 0, 0, 0, []), (.lload 5, 5, 0, 0, []), (.bipush 31, 31, 0, 0, []), (.iload_n 3, 3, 0, 0, []), (.isub, 0, 0, 0, []), (.lshr, 0, 0, 0, []), (.lor, 0, 0, 0, []), (.l2i, 0, 0, 0, []), (.ldc 20, 2147483647, 0, 0, []), (.iand, 0, 0, 0, []), (.iastore, 0, 0, 0, []), (.iinc 4 (-1), 4, 0, 0, []), (.goto (-60), 32, 0, 0, [])]
def blX3_shiftLeft_95 : List aIn := [(.iconst 0, 0, 0, 0, []), (.istore 4, 4, 0, 0, [])]
def blX3_shiftLeft_98 : List aIn := [(.iload 4, 4, 0, 0, []), (.iload_n 2, 2, 0, 0, []), (.if_icmp .ge 17, 118, 0, 0, [])]
def blX3_shiftLeft_104 : List aIn := [(.aload_n 0, 0, 0, 0, []), (.getfield 9, 4, 0, 2, []), (.iload 4, 4, 0, 0, []), (.iconst 0, 0, 0, 0, []), (.iastore, 0, 0, 0, []), (.iinc 4 1, 4, 0, 0, []), (.goto (-17), 98, 0, 0, [])]
def blX3_shiftLeft_118 : List aIn := [(.aload_n 0, 0, 0, 0, []), (.aload_n 0, 0, 0, 0, []), (.getfield 13, 4, 1, 0, []), (.iload_n 2, 2, 0, 0, []), (.iadd, 0, 0, 0, []), (.iconst 1, 1, 0, 0, []), (.iadd, 0, 0, 0, []), (.invokevirtual 21, 2, 0, 0, [])]
def blX3_shiftLeft_130 : List aIn := [(.return_, 0, 0, 0, [])]
def bkX3_shiftLeft : List (Nat × List aIn) := [(0, blX3_shiftLeft_0), (14, blX3_shiftLeft_14), (25, blX3_shiftLeft_25), (26, blX3_shiftLeft_26), (32, blX3_shiftLeft_32), (37, blX3_shiftLeft_37), (42, blX3_shiftLeft_42), (55, blX3_shiftLeft_55), (56, blX3_shiftLeft_56), (95, blX3_shiftLeft_95), (98, blX3_shiftLeft_98), (104, blX3_shiftLeft_104), (118, blX3_shiftLeft_118), (130, blX3_shiftLeft_130)]
theorem bqX3_shiftLeft_0 : aLook bkX3_shiftLeft 0 = some blX3_shiftLeft_0 := rfl
theorem bqX3_shiftLeft_14 : aLook bkX3_shiftLeft 14 = some blX3_shiftLeft_14 := rfl
theorem bqX3_shiftLeft_25 : aLook bkX3_shiftLeft 25 = some blX3_shiftLeft_25 := rfl
theorem bqX3_shiftLeft_26 : aLook bkX3_shiftLeft 26 = some blX3_shiftLeft_26 := rfl
theorem bqX3_shiftLeft_32 : aLook bkX3_shiftLeft 32 = some blX3_shiftLeft_32 := rfl
theorem bqX3_shiftLeft_37 : aLook bkX3_shiftLeft 37 = some blX3_shiftLeft_37 := rfl
theorem bqX3_shiftLeft_42 : aLook bkX3_shiftLeft 42 = some blX3_shiftLeft_42 := rfl
theorem bqX3_shiftLeft_55 : aLook bkX3_shiftLeft 55 = some blX3_shiftLeft_55 := rfl
theorem bqX3_shiftLeft_56 : aLook bkX3_shiftLeft 56 = some blX3_shiftLeft_56 := rfl
theorem bqX3_shiftLeft_95 : aLook bkX3_shiftLeft 95 = some blX3_shiftLeft_95 := rfl
theorem bqX3_shiftLeft_98 : aLook bkX3_shiftLeft 98 = some blX3_shiftLeft_98 := rfl
theorem bqX3_shiftLeft_104 : aLook bkX3_shiftLeft 104 = some blX3_shiftLeft_104 := rfl
theorem bqX3_shiftLeft_118 : aLook bkX3_shiftLeft 118 = some blX3_shiftLeft_118 := rfl
theorem bqX3_shiftLeft_130 : aLook bkX3_shiftLeft 130 = some blX3_shiftLeft_130 := rfl
theorem boX3_shiftLeft : ∀ pc is, aLook bkX3_shiftLeft pc = some is → aBlk RX3 cX3_shiftLeft 7 false pc is := aBks_ok (lk := lkX3) lkX3_ok (by decide +kernel)
def blX3_shiftRight_0 : List aIn := [(.iconst 0, 0, 0, 0, []), (.istore_n 2, 2, 0, 0, [])]
def blX3_shiftRight_2 : List aIn := [(.iload_n 2, 2, 0, 0, []), (.aload_n 0, 0, 0, 0, []), (.getfield 13, 4, 1, 0, []), (.if_icmp .ge 57, 64, 0, 0, [])]
def blX3_shiftRight_10 : List aIn := [(.iload_n 2, 2, 0, 0, []), (.iconst 1, 1, 0, 0, []), (.iadd, 0, 0, 0, []), (.aload_n 0, 0, 0, 0, []), (.getfield 13, 4, 1, 0, []), (.if_icmp .ge 15, 32, 0, 0, [])]
def blX3_shiftRight_20 : List aIn := [(.aload_n 0, 0, 0, 0, []), (.getfield 9, 4, 0, 2, []), (.iload_n 2, 2, 0, 0, []), (.iconst 1, 1, 0, 0, []), (.iadd, 0, 0, 0, []), (.iaload, 0, 0, 0, []), (.i2l, 0, 0, 0, []), (.goto 4, 33, 0, 0, [])]
def blX3_shiftRight_32 : List aIn := [(.lconst 0, 0, 0, 0, [])]
def blX3_shiftRight_33 : List aIn := [(.lstore_n 3, 3, 0, 0, []), (.aload_n 0, 0, 0, 0, []), (.getfield 9, 4, 0, 2, []), (.iload_n 2, 2, 0, 0, []), (.lload_n 3, 3, 0, 0, []), (.bipush 31, 31, 0, 0, []), (.lshl, 0, 0, 0, []), (.aload_n 0, 0, 0, 0, []), (.getfield 9, 4, 0, 2, []), (.iload_n 2, 2, 0, 0, []), (.iaload, 0, 0, 0, []), (.i2l, 0, 0, 0, []), (.lor, 0, 0, 0, []), (.iload_n 1, 1, 0, 0, []), (.lshr, 0, 0, 0, []), (.l2i, 0, 0, 0, []), (.ldc 20, 2147483647, 0, 0, []), (.iand, 0, 0, 0, []), (.iastore, 0, 0, 0, []), (.iinc 2 1, 2, 0, 0, []), (.goto (-59), 2, 0, 0, [])]
def blX3_shiftRight_64 : List aIn := [(.aload_n 0, 0, 0, 0, []), (.aload_n 0, 0, 0, 0, []), (.getfield 13, 4, 1, 0, []), (.invokevirtual 21, 2, 0, 0, [])]
def blX3_shiftRight_72 : List aIn := [(.return_, 0, 0, 0, [])]
def bkX3_shiftRight : List (Nat × List aIn) := [(0, blX3_shiftRight_0), (2, blX3_shiftRight_2), (10, blX3_shiftRight_10), (20, blX3_shiftRight_20), (32, blX3_shiftRight_32), (33, blX3_shiftRight_33), (64, blX3_shiftRight_64), (72, blX3_shiftRight_72)]
theorem bqX3_shiftRight_0 : aLook bkX3_shiftRight 0 = some blX3_shiftRight_0 := rfl
theorem bqX3_shiftRight_2 : aLook bkX3_shiftRight 2 = some blX3_shiftRight_2 := rfl
theorem bqX3_shiftRight_10 : aLook bkX3_shiftRight 10 = some blX3_shiftRight_10 := rfl
theorem bqX3_shiftRight_20 : aLook bkX3_shiftRight 20 = some blX3_shiftRight_20 := rfl
theorem bqX3_shiftRight_32 : aLook bkX3_shiftRight 32 = some blX3_shiftRight_32 := rfl
theorem bqX3_shiftRight_33 : aLook bkX3_shiftRight 33 = some blX3_shiftRight_33 := rfl
theorem bqX3_shiftRight_64 : aLook bkX3_shiftRight 64 = some blX3_shiftRight_64 := rfl
theorem bqX3_shiftRight_72 : aLook bkX3_shiftRight 72 = some blX3_shiftRight_72 := rfl
theorem boX3_shiftRight : ∀ pc is, aLook bkX3_shiftRight pc = some is → aBlk RX3 cX3_shiftRight 5 false pc is := aBks_ok (lk := lkX3) lkX3_ok (by decide +kernel)
def blX3_takeDigit_0 : List aIn := [(.lconst 0, 0, 0, 0, []), (.lstore_n 1, 1, 0, 0, []), (.aload_n 0, 0, 0, 0, []), (.getfield 13, 4, 1, 0, []), (.iconst 1, 1, 0, 0, []), (.isub, 0, 0, 0, []), (.istore_n 3, 3, 0, 0, [])]
def blX3_takeDigit_9 : List aIn := [(.iload_n 3, 3, 0, 0, []), (.ifCond .lt 40, 50, 0, 0, [])]
def blX3_takeDigit_13 : List aIn := [(.lload_n 1, 1, 0, 0, []), (.bipush 31, 31, 0, 0, []), (.lshl, 0, 0, 0, []), (.aload_n 0, 0, 0, 0, []), (.getfield 9, 4, 0, 2, []), (.iload_n 3, 3, 0, 0, []), (.iaload, 0, 0, 0, []), (.i2l, 0, 0, 0, []), (.lor, 0, 0, 0, []), (.lstore_n 1, 1, 0, 0, []), (.aload_n 0, 0, 0, 0, []), (.getfield 9, 4, 0, 2, []), (.iload_n 3, 3, 0, 0, []), (.lload_n 1, 1, 0, 0, []), (.ldc2_w 45, 10, 0, 0, []), (.ldiv, 0, 0, 0, []), (.l2i, 0, 0, 0, []), (.iastore, 0, 0, 0, []), (.lload_n 1, 1, 0, 0, []), (.ldc2_w 45, 10, 0, 0, []), (.lrem, 0, 0, 0, []), (.lstore_n 1, 1, 0, 0, []), (.iinc 3 (-1), 3, 0, 0, []), (.goto (-38), 9, 0, 0, [])]
def blX3_takeDigit_50 : List aIn := [(.aload_n 0, 0, 0, 0, []), (.aload_n 0, 0, 0, 0, []), (.getfield 13, 4, 1, 0, []), (.invokevirtual 21, 2, 0, 0, [])]
def blX3_takeDigit_58 : List aIn := [(.lload_n 1, 1, 0, 0, []), (.l2i, 0, 0, 0, []), (.ireturn, 0, 0, 0, [])]
def bkX3_takeDigit : List (Nat × List aIn) := [(0, blX3_takeDigit_0), (9, blX3_takeDigit_9), (13, blX3_takeDigit_13), (50, blX3_takeDigit_50), (58, blX3_takeDigit_58)]
theorem bqX3_takeDigit_0 : aLook bkX3_takeDigit 0 = some blX3_takeDigit_0 := rfl
theorem bqX3_takeDigit_9 : aLook bkX3_takeDigit 9 = some blX3_takeDigit_9 := rfl
theorem bqX3_takeDigit_13 : aLook bkX3_takeDigit 13 = some blX3_takeDigit_13 := rfl
theorem bqX3_takeDigit_50 : aLook bkX3_takeDigit 50 = some blX3_takeDigit_50 := rfl
theorem bqX3_takeDigit_58 : aLook bkX3_takeDigit 58 = some blX3_takeDigit_58 := rfl
theorem boX3_takeDigit : ∀ pc is, aLook bkX3_takeDigit pc = some is → aBlk RX3 cX3_takeDigit 4 false pc is := aBks_ok (lk := lkX3) lkX3_ok (by decide +kernel)
def blX3_takeOctet_0 : List aIn := [(.aload_n 0, 0, 0, 0, []), (.getfield 9, 4, 0, 2, []), (.iconst 0, 0, 0, 0, []), (.iaload, 0, 0, 0, []), (.sipush 255, 255, 0, 0, []), (.iand, 0, 0, 0, []), (.istore_n 1, 1, 0, 0, []), (.aload_n 0, 0, 0, 0, []), (.bipush 8, 8, 0, 0, []), (.invokevirtual 47, 2, 0, 0, [])]
def blX3_takeOctet_17 : List aIn := [(.iload_n 1, 1, 0, 0, []), (.ireturn, 0, 0, 0, [])]
def bkX3_takeOctet : List (Nat × List aIn) := [(0, blX3_takeOctet_0), (17, blX3_takeOctet_17)]
theorem bqX3_takeOctet_0 : aLook bkX3_takeOctet 0 = some blX3_takeOctet_0 := rfl
theorem bqX3_takeOctet_17 : aLook bkX3_takeOctet 17 = some blX3_takeOctet_17 := rfl
theorem boX3_takeOctet : ∀ pc is, aLook bkX3_takeOctet pc = some is → aBlk RX3 cX3_takeOctet 2 false pc is := aBks_ok (lk := lkX3) lkX3_ok (by decide +kernel)
def blX3_divide_0 : List aIn := [(.aload_n 2, 2, 0, 0, []), (.invokevirtual 17, 1, 0, 0, [])]
def blX3_divide_4 : List aIn := [(.aload_n 1, 1, 0, 0, []), (.getfield 13, 4, 1, 0, []), (.ifCond .eq 22, 30, 0, 0, [])]
def blX3_divide_11 : List aIn := [(.aload_n 0, 0, 0, 0, []), (.getfield 13, 4, 1, 0, []), (.iconst 1, 1, 0, 0, []), (.iadd, 0, 0, 0, []), (.bipush 20, 20, 0, 0, []), (.if_icmp .ge 11, 30, 0, 0, [])]
def blX3_divide_22 : List aIn := [(.aload_n 0, 0, 0, 0, []), (.aload_n 1, 1, 0, 0, []), (.invokevirtual 50, 2, 0, 0, [])]
def blX3_divide_27 : List aIn := [(.ifCond .ge 4, 31, 0, 0, [])]
def blX3_divide_30 : List aIn := [(.return_, 0, 0, 0, [])]
def blX3_divide_31 : List aIn := [(.bipush 31, 31, 0, 0, []), (.aload_n 1, 1, 0, 0, []), (.invokevirtual 25, 1, 0, 0, [])]
def blX3_divide_37 : List aIn := [(.isub, 0, 0, 0, []), (.istore 4, 4, 0, 0, []), (.aload_n 3, 3, 0, 0, []), (.aload_n 1, 1, 0, 0, []), (.invokevirtual 54, 2, 0, 0, [])]
def blX3_divide_45 : List aIn := [(.aload_n 3, 3, 0, 0, []), (.iload 4, 4, 0, 0, []), (.invokevirtual 58, 2, 0, 0, [])]
def blX3_divide_51 : List aIn := [(.aload_n 0, 0, 0, 0, []), (.iload 4, 4, 0, 0, []), (.invokevirtual 58, 2, 0, 0, [])]
def blX3_divide_57 : List aIn := [(.aload_n 0, 0, 0, 0, []), (.getfield 13, 4, 1, 0, []), (.aload_n 3, 3, 0, 0, []), (.getfield 13, 4, 1, 0, []), (.isub, 0, 0, 0, []), (.iconst 1, 1, 0, 0, []), (.iadd, 0, 0, 0, []), (.istore 5, 5, 0, 0, []), (.iload 5, 5, 0, 0, []), (.iconst 1, 1, 0, 0, []), (.isub, 0, 0, 0, []), (.istore 6, 6, 0, 0, [])]
def blX3_divide_76 : List aIn := [(.iload 6, 6, 0, 0, []), (.ifCond .lt 23, 101, 0, 0, [])]
def blX3_divide_81 : List aIn := [(.aload_n 2, 2, 0, 0, []), (.getfield 9, 4, 0, 2, []), (.iload 6, 6, 0, 0, []), (.aload_n 0, 0, 0, 0, []), (.aload_n 3, 3, 0, 0, []), (.iload 6, 6, 0, 0, []), (.invokevirtual 61, 3, 0, 0, [])]
def blX3_divide_94 : List aIn := [(.iastore, 0, 0, 0, []), (.iinc 6 (-1), 6, 0, 0, []), (.goto (-22), 76, 0, 0, [])]
def blX3_divide_101 : List aIn := [(.aload_n 2, 2, 0, 0, []), (.iload 5, 5, 0, 0, []), (.invokevirtual 21, 2, 0, 0, [])]
def blX3_divide_107 : List aIn := [(.aload_n 0, 0, 0, 0, []), (.aload_n 0, 0, 0, 0, []), (.getfield 13, 4, 1, 0, []), (.invokevirtual 21, 2, 0, 0, [])]
def blX3_divide_115 : List aIn := [(.aload_n 0, 0, 0, 0, []), (.iload 4, 4, 0, 0, []), (.invokevirtual 47, 2, 0, 0, [])]
def blX3_divide_121 : List aIn := [(.return_, 0, 0, 0, [])]
def bkX3_divide : List (Nat × List aIn) := [(0, blX3_divide_0), (4, blX3_divide_4), (11, blX3_divide_11), (22, blX3_divide_22), (27, blX3_divide_27), (30, blX3_divide_30), (31, blX3_divide_31), (37, blX3_divide_37), (45, blX3_divide_45), (51, blX3_divide_51), (57, blX3_divide_57), (76, blX3_divide_76), (81, blX3_divide_81), (94, blX3_divide_94), (101, blX3_divide_101), (107, blX3_divide_107), (115, blX3_divide_115), (121, blX3_divide_121)]
theorem bqX3_divide_0 : aLook bkX3_divide 0 = some blX3_divide_0 := rfl
theorem bqX3_divide_4 : aLook bkX3_divide 4 = some blX3_divide_4 := rfl
theorem bqX3_divide_11 : aLook bkX3_divide 11 = some blX3_divide_11 := rfl
theorem bqX3_divide_22 : aLook bkX3_divide 22 = some blX3_divide_22 := rfl
theorem bqX3_divide_27 : aLook bkX3_divide 27 = some blX3_divide_27 := rfl
theorem bqX3_divide_30 : aLook bkX3_divide 30 = some blX3_divide_30 := rfl
theorem bqX3_divide_31 : aLook bkX3_divide 31 = some blX3_divide_31 := rfl
theorem bqX3_divide_37 : aLook bkX3_divide 37 = some blX3_divide_37 := rfl
theorem bqX3_divide_45 : aLook bkX3_divide 45 = some blX3_divide_45 := rfl
theorem bqX3_divide_51 : aLook bkX3_divide 51 = some blX3_divide_51 := rfl
theorem bqX3_divide_57 : aLook bkX3_divide 57 = some blX3_divide_57 := rfl
theorem bqX3_divide_76 : aLook bkX3_divide 76 = some blX3_divide_76 := rfl
theorem bqX3_divide_81 : aLook bkX3_divide 81 = some blX3_divide_81 := rfl
theorem bqX3_divide_94 : aLook bkX3_divide 94 = some blX3_divide_94 := rfl
theorem bqX3_divide_101 : aLook bkX3_divide 101 = some blX3_divide_101 := rfl
theorem bqX3_divide_107 : aLook bkX3_divide 107 = some blX3_divide_107 := rfl
theorem bqX3_divide_115 : aLook bkX3_divide 115 = some blX3_divide_115 := rfl
theorem bqX3_divide_121 : aLook bkX3_divide 121 = some blX3_divide_121 := rfl
theorem boX3_divide : ∀ pc is, aLook bkX3_divide pc = some is → aBlk RX3 cX3_divide 7 false pc is := aBks_ok (lk := lkX3) lkX3_ok (by decide +kernel)
def blX3_takeTimes_0 : List aIn := [(.aload_n 0, 0, 0, 0, []), (.aload_n 1, 1, 0, 0, []), (.iload_n 2, 2, 0, 0, []), (.invokevirtual 65, 3, 0, 0, [])]
def blX3_takeTimes_6 : List aIn := [(.istore_n 3, 3, 0, 0, []), (.iload_n 2, 2, 0, 0, []), (.aload_n 1, 1, 0, 0, []), (.getfield 13, 4, 1, 0, []), (.iadd, 0, 0, 0, []), (.istore 4, 4, 0, 0, []), (.lconst 0, 0, 0, 0, []), (.lstore 5, 5, 0, 0, []), (.iload_n 2, 2, 0, 0, []), (.istore 7, 7, 0, 0, [])]
def blX3_takeTimes_21 : List aIn := [(.iload 7, 7, 0, 0, []), (.iload 4, 4, 0, 0, []), (.if_icmp .ge 56, 81, 0, 0, [])]
def blX3_takeTimes_28 : List aIn := [(.lload 5, 5, 0, 0, []), (.aload_n 0, 0, 0, 0, []), (.getfield 9, 4, 0, 2, []), (.iload 7, 7, 0, 0, []), (.iaload, 0, 0, 0, []), (.i2l, 0, 0, 0, []), (.iload_n 3, 3, 0, 0, []), (.i2l, 0, 0, 0, []), (.aload_n 1, 1, 0, 0, []), (.getfield 9, 4, 0, 2, []), (.iload 7, 7, 0, 0, []), (.iload_n 2, 2, 0, 0, []), (.isub, 0, 0, 0, []), (.iaload, 0, 0, 0, []), (.i2l, 0, 0, 0, []), (.lmul, 0, 0, 0, []), (.lsub, 0, 0, 0, []), (.ladd, 0, 0, 0, []), (.lstore 5, 5, 0, 0, []), (.aload_n 0, 0, 0, 0, []), (.getfield 9, 4, 0, 2, []), (.iload 7, 7, 0, 0, []), (.lload 5, 5, 0, 0, []), (.l2i, 0, 0, 0, []), (.ldc 20, 2147483647, 0, 0, []), (.iand, 0, 0, 0, []), (.iastore, 0, 0, 0, []), (.lload 5, 5, 0, 0, []), (.bipush 31, 31, 0, 0, []), (.lshr, 0, 0, 0, []), (.lstore 5, 5, 0, 0, []), (.iinc 7 1, 7, 0, 0, []), (.goto (-57), 21, 0, 0, [])]
def blX3_takeTimes_81 : List aIn := [(.aload_n 0, 0, 0, 0, []), (.getfield 9, 4, 0, 2, []), (.iload 4, 4, 0, 0, []), (.iaload, 0, 0, 0, []), (.i2l, 0, 0, 0, []), (.lload 5, 5, 0, 0, []), (.ladd, 0, 0, 0, []), (.lconst 0, 0, 0, 0, []), (.lcmp, 0, 0, 0, []), (.ifCond .ge 7, 101, 0, 0, [])]
def blX3_takeTimes_97 : List aIn := [(.iconst 1, 1, 0, 0, []), (.goto 4, 102, 0, 0, [])]
def blX3_takeTimes_101 : List aIn := [(.iconst 0, 0, 0, 0, [])]
def blX3_takeTimes_102 : List aIn := [(.istore 7, 7, 0, 0, []), (.aload_n 0, 0, 0, 0, []), (.getfield 9, 4, 0, 2, []), (.iload 4, 4, 0, 0, []), (.iconst 0, 0, 0, 0, []), (.iastore, 0, 0, 0, []), (.iload 7, 7, 0, 0, []), (.ifCond .ne 5, 119, 0, 0, [])]
def blX3_takeTimes_117 : List aIn := [(.iload_n 3, 3, 0, 0, []), (.ireturn, 0, 0, 0, [])]
def blX3_takeTimes_119 : List aIn := [(.lconst 0, 0, 0, 0, []), (.lstore 5, 5, 0, 0, []), (.iload_n 2, 2, 0, 0, []), (.istore 8, 8, 0, 0, [])]
def blX3_takeTimes_125 : List aIn := [(.iload 8, 8, 0, 0, []), (.iload 4, 4, 0, 0, []), (.if_icmp .ge 53, 182, 0, 0, [])]
def blX3_takeTimes_132 : List aIn := [(.lload 5, 5, 0, 0, []), (.aload_n 0, 0, 0, 0, []), (.getfield 9, 4, 0, 2, []), (.iload 8, 8, 0, 0, []), (.iaload, 0, 0, 0, []), (.i2l, 0, 0, 0, []), (.aload_n 1, 1, 0, 0, []), (.getfield 9, 4, 0, 2, []), (.iload 8, 8, 0, 0, []), (.iload_n 2, 2, 0, 0, []), (.isub, 0, 0, 0, []), (.iaload, 0, 0, 0, []), (.i2l, 0, 0, 0, []), (.ladd, 0, 0, 0, []), (.ladd, 0, 0, 0, []), (.lstore 5, 5, 0, 0, []), (.aload_n 0, 0, 0, 0, []), (.getfield 9, 4, 0, 2, []), (.iload 8, 8, 0, 0, []), (.lload 5, 5, 0, 0, []), (.l2i, 0, 0, 0, []), (.ldc 20, 2147483647, 0, 0, []), (.iand, 0, 0, 0, []), (.iastore, 0, 0, 0, []), (.lload 5, 5, 0, 0, []), (.bipush 31, 31, 0, 0, []), (.lshr, 0, 0, 0, []), (.lstore 5, 5, 0, 0, []), (.iinc 8 1, 8, 0, 0, []), (.goto (-54), 125, 0, 0, [])]
def blX3_takeTimes_182 : List aIn := [(.iload_n 3, 3, 0, 0, []), (.iconst 1, 1, 0, 0, []), (.isub, 0, 0, 0, []), (.ireturn, 0, 0, 0, [])]
def bkX3_takeTimes : List (Nat × List aIn) := [(0, blX3_takeTimes_0), (6, blX3_takeTimes_6), (21, blX3_takeTimes_21), (28, blX3_takeTimes_28), (81, blX3_takeTimes_81), (97, blX3_takeTimes_97), (101, blX3_takeTimes_101), (102, blX3_takeTimes_102), (117, blX3_takeTimes_117), (119, blX3_takeTimes_119), (125, blX3_takeTimes_125), (132, blX3_takeTimes_132), (182, blX3_takeTimes_182)]
theorem bqX3_takeTimes_0 : aLook bkX3_takeTimes 0 = some blX3_takeTimes_0 := rfl
theorem bqX3_takeTimes_6 : aLook bkX3_takeTimes 6 = some blX3_takeTimes_6 := rfl
theorem bqX3_takeTimes_21 : aLook bkX3_takeTimes 21 = some blX3_takeTimes_21 := rfl
theorem bqX3_takeTimes_28 : aLook bkX3_takeTimes 28 = some blX3_takeTimes_28 := rfl
theorem bqX3_takeTimes_81 : aLook bkX3_takeTimes 81 = some blX3_takeTimes_81 := rfl
theorem bqX3_takeTimes_97 : aLook bkX3_takeTimes 97 = some blX3_takeTimes_97 := rfl
theorem bqX3_takeTimes_101 : aLook bkX3_takeTimes 101 = some blX3_takeTimes_101 := rfl
theorem bqX3_takeTimes_102 : aLook bkX3_takeTimes 102 = some blX3_takeTimes_102 := rfl
theorem bqX3_takeTimes_117 : aLook bkX3_takeTimes 117 = some blX3_takeTimes_117 := rfl
theorem bqX3_takeTimes_119 : aLook bkX3_takeTimes 119 = some blX3_takeTimes_119 := rfl
theorem bqX3_takeTimes_125 : aLook bkX3_takeTimes 125 = some blX3_takeTimes_125 := rfl
theorem bqX3_takeTimes_132 : aLook bkX3_takeTimes 132 = some blX3_takeTimes_132 := rfl
theorem bqX3_takeTimes_182 : aLook bkX3_takeTimes 182 = some blX3_takeTimes_182 := rfl
theorem boX3_takeTimes : ∀ pc is, aLook bkX3_takeTimes pc = some is → aBlk RX3 cX3_takeTimes 9 false pc is := aBks_ok (lk := lkX3) lkX3_ok (by decide +kernel)
def blX3_guessTimes_0 : List aIn := [(.iload_n 2, 2, 0, 0, []), (.aload_n 1, 1, 0, 0, []), (.getfield 13, 4, 1, 0, []), (.iadd, 0, 0, 0, []), (.istore_n 3, 3, 0, 0, []), (.aload_n 1, 1, 0, 0, []), (.getfield 13, 4, 1, 0, []), (.ifCond .le 18, 29, 0, 0, [])]
def blX3_guessTimes_14 : List aIn := [(.aload_n 1, 1, 0, 0, []), (.getfield 9, 4, 0, 2, []), (.aload_n 1, 1, 0, 0, []), (.getfield 13, 4, 1, 0, []), (.iconst 1, 1, 0, 0, []), (.isub, 0, 0, 0, []), (.iaload, 0, 0, 0, []), (.i2l, 0, 0, 0, []), (.goto 4, 30, 0, 0, [])]
def blX3_guessTimes_29 : List aIn := [(.lconst 0, 0, 0, 0, [])]
def blX3_guessTimes_30 : List aIn := [(.lstore 4, 4, 0, 0, []), (.lload 4, 4, 0, 0, []), (.lconst 0, 0, 0, 0, []), (.lcmp, 0, 0, 0, []), (.ifCond .ne 5, 41, 0, 0, [])]
def blX3_guessTimes_39 : List aIn := [(.iconst 0, 0, 0, 0, []), (.ireturn, 0, 0, 0, [])]
def blX3_guessTimes_41 : List aIn := [(.aload_n 0, 0, 0, 0, []), (.getfield 9, 4, 0, 2, []), (.iload_n 3, 3, 0, 0, []), (.iaload, 0, 0, 0, []), (.i2l, 0, 0, 0, []), (.bipush 31, 31, 0, 0, []), (.lshl, 0, 0, 0, []), (.aload_n 0, 0, 0, 0, []), (.getfield 9, 4, 0, 2, []), (.iload_n 3, 3, 0, 0, []), (.iconst 1, 1, 0, 0, []), (.isub, 0, 0, 0, []), (.iaload, 0, 0, 0, []), (.i2l, 0, 0, 0, []), (.lor, 0, 0, 0, []), (.lstore 6, 6, 0, 0, []), (.lload 6, 6, 0, 0, []), (.lload 4, 4, 0, 0, []), (.ldiv, 0, 0, 0, []), (.lstore 8, 8, 0, 0, []), (.lload 6, 6, 0, 0, []), (.lload 4, 4, 0, 0, []), (.lrem, 0, 0, 0, []), (.lstore 10, 10, 0, 0, []), (.aload_n 1, 1, 0, 0, []), (.getfield 13, 4, 1, 0, []), (.iconst 1, 1, 0, 0, []), (.if_icmp .le 18, 100, 0, 0, [])]
def blX3_guessTimes_85 : List aIn := [(.aload_n 1, 1, 0, 0, []), (.getfield 9, 4, 0, 2, []), (.aload_n 1, 1, 0, 0, []), (.getfield 13, 4, 1, 0, []), (.iconst 2, 2, 0, 0, []), (.isub, 0, 0, 0, []), (.iaload, 0, 0, 0, []), (.i2l, 0, 0, 0, []), (.goto 4, 101, 0, 0, [])]
def blX3_guessTimes_100 : List aIn := [(.lconst 0, 0, 0, 0, [])]
def blX3_guessTimes_101 : List aIn := [(.lstore 12, 12, 0, 0, []), (.aload_n 1, 1, 0, 0, []), (.getfield 13, 4, 1, 0, []), (.iconst 1, 1, 0, 0, []), (.if_icmp .le 15, 123, 0, 0, [])]
def blX3_guessTimes_111 : List aIn := [(.aload_n 0, 0, 0, 0, []), (.getfield 9, 4, 0, 2, []), (.iload_n 3, 3, 0, 0, []), (.iconst 2, 2, 0, 0, []), (.isub, 0, 0, 0, []), (.iaload, 0, 0, 0, []), (.i2l, 0, 0, 0, []), (.goto 4, 124, 0, 0, [])]
def blX3_guessTimes_123 : List aIn := [(.lconst 0, 0, 0, 0, [])]
def blX3_guessTimes_124 : List aIn := [(.lstore 14, 14, 0, 0, []), (.iconst 0, 0, 0, 0, []), (.istore 16, 16, 0, 0, [])]
def blX3_guessTimes_129 : List aIn := [(.iload 16, 16, 0, 0, []), (.iconst 2, 2, 0, 0, []), (.if_icmp .ge 57, 189, 0, 0, [])]
def blX3_guessTimes_135 : List aIn := [(.lload 10, 10, 0, 0, []), (.ldc2_w 68, 2147483647, 0, 0, []), (.lcmp, 0, 0, 0, []), (.ifCond .gt 48, 189, 0, 0, [])]
def blX3_guessTimes_144 : List aIn := [(.lload 8, 8, 0, 0, []), (.ldc2_w 68, 2147483647, 0, 0, []), (.lcmp, 0, 0, 0, []), (.ifCond .gt 20, 170, 0, 0, [])]
def blX3_guessTimes_153 : List aIn := [(.lload 8, 8, 0, 0, []), (.lload 12, 12, 0, 0, []), (.lmul, 0, 0, 0, []), (.lload 10, 10, 0, 0, []), (.bipush 31, 31, 0, 0, []), (.lshl, 0, 0, 0, []), (.lload 14, 14, 0, 0, []), (.lor, 0, 0, 0, []), (.lcmp, 0, 0, 0, []), (.ifCond .le 16, 183, 0, 0, [])]
def blX3_guessTimes_170 : List aIn := [(.lload 8, 8, 0, 0, []), (.lconst 1, 1, 0, 0, []), (.lsub, 0, 0, 0, []), (.lstore 8, 8, 0, 0, []), (.lload 10, 10, 0, 0, []), (.lload 4, 4, 0, 0, []), (.ladd, 0, 0, 0, []), (.lstore 10, 10, 0, 0, [])]
def blX3_guessTimes_183 : List aIn := [(.iinc 16 1, 16, 0, 0, []), (.goto (-57), 129, 0, 0, [])]
def blX3_guessTimes_189 : List aIn := [(.lload 8, 8, 0, 0, []), (.l2i, 0, 0, 0, []), (.ireturn, 0, 0, 0, [])]
def bkX3_guessTimes : List (Nat × List aIn) := [(0, blX3_guessTimes_0), (14, blX3_guessTimes_14), (29, blX3_guessTimes_29), (30, blX3_guessTimes_30), (39, blX3_guessTimes_39), (41, blX3_guessTimes_41), (85, blX3_guessTimes_85), (100, blX3_guessTimes_100), (101, blX3_guessTimes_101), (111, blX3_guessTimes_111), (123, blX3_guessTimes_123), (124, blX3_guessTimes_124), (129, blX3_guessTimes_129), (135, blX3_guessTimes_135), (144, blX3_guessTimes_144), (153, blX3_guessTimes_153), (170, blX3_guessTimes_170), (183, blX3_guessTimes_183), (189, blX3_guessTimes_189)]
theorem bqX3_guessTimes_0 : aLook bkX3_guessTimes 0 = some blX3_guessTimes_0 := rfl
theorem bqX3_guessTimes_14 : aLook bkX3_guessTimes 14 = some blX3_guessTimes_14 := rfl
theorem bqX3_guessTimes_29 : aLook bkX3_guessTimes 29 = some blX3_guessTimes_29 := rfl
theorem bqX3_guessTimes_30 : aLook bkX3_guessTimes 30 = some blX3_guessTimes_30 := rfl
theorem bqX3_guessTimes_39 : aLook bkX3_guessTimes 39 = some blX3_guessTimes_39 := rfl
theorem bqX3_guessTimes_41 : aLook bkX3_guessTimes 41 = some blX3_guessTimes_41 := rfl
theorem bqX3_guessTimes_85 : aLook bkX3_guessTimes 85 = some blX3_guessTimes_85 := rfl
theorem bqX3_guessTimes_100 : aLook bkX3_guessTimes 100 = some blX3_guessTimes_100 := rfl
theorem bqX3_guessTimes_101 : aLook bkX3_guessTimes 101 = some blX3_guessTimes_101 := rfl
theorem bqX3_guessTimes_111 : aLook bkX3_guessTimes 111 = some blX3_guessTimes_111 := rfl
theorem bqX3_guessTimes_123 : aLook bkX3_guessTimes 123 = some blX3_guessTimes_123 := rfl
theorem bqX3_guessTimes_124 : aLook bkX3_guessTimes 124 = some blX3_guessTimes_124 := rfl
theorem bqX3_guessTimes_129 : aLook bkX3_guessTimes 129 = some blX3_guessTimes_129 := rfl
theorem bqX3_guessTimes_135 : aLook bkX3_guessTimes 135 = some blX3_guessTimes_135 := rfl
theorem bqX3_guessTimes_144 : aLook bkX3_guessTimes 144 = some blX3_guessTimes_144 := rfl
theorem bqX3_guessTimes_153 : aLook bkX3_guessTimes 153 = some blX3_guessTimes_153 := rfl
theorem bqX3_guessTimes_170 : aLook bkX3_guessTimes 170 = some blX3_guessTimes_170 := rfl
theorem bqX3_guessTimes_183 : aLook bkX3_guessTimes 183 = some blX3_guessTimes_183 := rfl
theorem bqX3_guessTimes_189 : aLook bkX3_guessTimes 189 = some blX3_guessTimes_189 := rfl
theorem boX3_guessTimes : ∀ pc is, aLook bkX3_guessTimes pc = some is → aBlk RX3 cX3_guessTimes 17 false pc is := aBks_ok (lk := lkX3) lkX3_ok (by decide +kernel)
