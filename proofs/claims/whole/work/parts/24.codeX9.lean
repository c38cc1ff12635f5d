/-! code of PackedDecimalsModel (printed by gen.py) -/
def blX9_init_0 : List aIn := [(.aload_n 0, 0, 0, 0, []), (.invokespecial 1, 1, 0, 0, [])]
def blX9_init_4 : List aIn := [(.aload_n 0, 0, 0, 0, []), (.sipush 4096, 4096, 0, 0, []), (.newarray .byte, 1, 0, 0, []), (.putfield 7, 10, 1, 2, []), (.aload_n 0, 0, 0, 0, []), (.bipush 64, 64, 0, 0, []), (.newarray .int, 0, 0, 0, []), (.putfield 13, 10, 2, 2, []), (.aload_n 0, 0, 0, 0, []), (.bipush 64, 64, 0, 0, []), (.newarray .int, 0, 0, 0, []), (.putfield 17, 10, 3, 2, []), (.aload_n 0, 0, 0, 0, []), (.bipush 64, 64, 0, 0, []), (.newarray .int, 0, 0, 0, []), (.putfield 20, 10, 4, 2, []), (.aload_n 0, 0, 0, 0, []), (.bipush 64, 64, 0, 0, []), (.newarray .int, 0, 0, 0, []), (.putfield 23, 10, 5, 2, []), (.aload_n 0, 0, 0, 0, []), (.bipush 64, 64, 0, 0, []), (.newarray .int, 0, 0, 0, []), (.putfield 26, 10, 6, 2, []), (.aload_n 0, 0, 0, 0, []), (.sipush 880, 880, 0, 0, []), (.newarray .int, 0, 0, 0, []), (.putfield 29, 10, 8, 2, []), (.return_, 0, 0, 0, [])]
def bkX9_init : List (Nat × List aIn) := [(0, blX9_init_0), (4, blX9_init_4)]
theorem bqX9_init_0 : aLook bkX9_init 0 = some blX9_init_0 := rfl
theorem bqX9_init_4 : aLook bkX9_init 4 = some blX9_init_4 := rfl
theorem boX9_init : ∀ pc is, aLook bkX9_init pc = some is → aBlk RX9 cX9_init 1 true pc is := aBks_ok (lk := lkX9i) lkX9i_ok (by decide +kernel)
def blX9_thrown_0 : List aIn := [(.aload_n 0, 0, 0, 0, []), (.getfield 32, 10, 0, 0, []), (.ireturn, 0, 0, 0, [])]
def bkX9_thrown : List (Nat × List aIn) := [(0, blX9_thrown_0)]
theorem bqX9_thrown_0 : aLook bkX9_thrown 0 = some blX9_thrown_0 := rfl
theorem boX9_thrown : ∀ pc is, aLook bkX9_thrown pc = some is → aBlk RX9 cX9_thrown 1 false pc is := aBks_ok (lk := lkX9) lkX9_ok (by decide +kernel)
def blX9_fails_0 : List aIn := [(.aload_n 0, 0, 0, 0, []), (.iload_n 1, 1, 0, 0, []), (.ifCond .eq 7, 9, 0, 0, [])]
def blX9_fails_5 : List aIn := [(.iconst 1, 1, 0, 0, []), (.goto 12, 18, 0, 0, [])]
def blX9_fails_9 : List aIn := [(.iload_n 2, 2, 0, 0, []), (.ifCond .eq 7, 17, 0, 0, [])]
def blX9_fails_13 : List aIn := [(.iconst 2, 2, 0, 0, []), (.goto 4, 18, 0, 0, [])]
def blX9_fails_17 : List aIn := [(.iconst 0, 0, 0, 0, [])]
def blX9_fails_18 : List aIn := [(.putfield 32, 10, 0, 0, []), (.aload_n 0, 0, 0, 0, []), (.getfield 32, 10, 0, 0, []), (.ifCond .le 7, 32, 0, 0, [])]
def blX9_fails_28 : List aIn := [(.iconst 1, 1, 0, 0, []), (.goto 4, 33, 0, 0, [])]
def blX9_fails_32 : List aIn := [(.iconst 0, 0, 0, 0, [])]
def blX9_fails_33 : List aIn := [(.ireturn, 0, 0, 0, [])]
def bkX9_fails : List (Nat × List aIn) := [(0, blX9_fails_0), (5, blX9_fails_5), (9, blX9_fails_9), (13, blX9_fails_13), (17, blX9_fails_17), (18, blX9_fails_18), (28, blX9_fails_28), (32, blX9_fails_32), (33, blX9_fails_33)]
theorem bqX9_fails_0 : aLook bkX9_fails 0 = some blX9_fails_0 := rfl
theorem bqX9_fails_5 : aLook bkX9_fails 5 = some blX9_fails_5 := rfl
theorem bqX9_fails_9 : aLook bkX9_fails 9 = some blX9_fails_9 := rfl
theorem bqX9_fails_13 : aLook bkX9_fails 13 = some blX9_fails_13 := rfl
theorem bqX9_fails_17 : aLook bkX9_fails 17 = some blX9_fails_17 := rfl
theorem bqX9_fails_18 : aLook bkX9_fails 18 = some blX9_fails_18 := rfl
theorem bqX9_fails_28 : aLook bkX9_fails 28 = some blX9_fails_28 := rfl
theorem bqX9_fails_32 : aLook bkX9_fails 32 = some blX9_fails_32 := rfl
theorem bqX9_fails_33 : aLook bkX9_fails 33 = some blX9_fails_33 := rfl
theorem boX9_fails : ∀ pc is, aLook bkX9_fails pc = some is → aBlk RX9 cX9_fails 3 false pc is := aBks_ok (lk := lkX9) lkX9_ok (by decide +kernel)
def blX9_clear_0 : List aIn := [(.iconst 0, 0, 0, 0, []), (.istore_n 2, 2, 0, 0, [])]
def blX9_clear_2 : List aIn := [(.iload_n 2, 2, 0, 0, []), (.bipush 80, 80, 0, 0, []), (.if_icmp .ge 21, 26, 0, 0, [])]
def blX9_clear_8 : List aIn := [(.aload_n 0, 0, 0, 0, []), (.getfield 29, 10, 8, 2, []), (.bipush 80, 80, 0, 0, []), (.iload_n 1, 1, 0, 0, []), (.imul, 0, 0, 0, []), (.iload_n 2, 2, 0, 0, []), (.iadd, 0, 0, 0, []), (.iconst 0, 0, 0, 0, []), (.iastore, 0, 0, 0, []), (.iinc 2 1, 2, 0, 0, []), (.goto (-21), 2, 0, 0, [])]
def blX9_clear_26 : List aIn := [(.return_, 0, 0, 0, [])]
def bkX9_clear : List (Nat × List aIn) := [(0, blX9_clear_0), (2, blX9_clear_2), (8, blX9_clear_8), (26, blX9_clear_26)]
theorem bqX9_clear_0 : aLook bkX9_clear 0 = some blX9_clear_0 := rfl
theorem bqX9_clear_2 : aLook bkX9_clear 2 = some blX9_clear_2 := rfl
theorem bqX9_clear_8 : aLook bkX9_clear 8 = some blX9_clear_8 := rfl
theorem bqX9_clear_26 : aLook bkX9_clear 26 = some blX9_clear_26 := rfl
theorem boX9_clear : ∀ pc is, aLook bkX9_clear pc = some is → aBlk RX9 cX9_clear 3 false pc is := aBks_ok (lk := lkX9) lkX9_ok (by decide +kernel)
def blX9_small_0 : List aIn := [(.aload_n 0, 0, 0, 0, []), (.iload_n 1, 1, 0, 0, []), (.invokevirtual 36, 2, 0, 0, [])]
def blX9_small_5 : List aIn := [(.aload_n 0, 0, 0, 0, []), (.getfield 29, 10, 8, 2, []), (.bipush 80, 80, 0, 0, []), (.iload_n 1, 1, 0, 0, []), (.imul, 0, 0, 0, []), (.iload_n 2, 2, 0, 0, []), (.iastore, 0, 0, 0, []), (.return_, 0, 0, 0, [])]
def bkX9_small : List (Nat × List aIn) := [(0, blX9_small_0), (5, blX9_small_5)]
theorem bqX9_small_0 : aLook bkX9_small 0 = some blX9_small_0 := rfl
theorem bqX9_small_5 : aLook bkX9_small 5 = some blX9_small_5 := rfl
theorem boX9_small : ∀ pc is, aLook bkX9_small pc = some is → aBlk RX9 cX9_small 3 false pc is := aBks_ok (lk := lkX9) lkX9_ok (by decide +kernel)
def blX9_copy_0 : List aIn := [(.iconst 0, 0, 0, 0, []), (.istore_n 3, 3, 0, 0, [])]
def blX9_copy_2 : List aIn := [(.iload_n 3, 3, 0, 0, []), (.bipush 80, 80, 0, 0, []), (.if_icmp .ge 31, 36, 0, 0, [])]
def blX9_copy_8 : List aIn := [(.aload_n 0, 0, 0, 0, []), (.getfield 29, 10, 8, 2, []), (.bipush 80, 80, 0, 0, []), (.iload_n 2, 2, 0, 0, []), (.imul, 0, 0, 0, []), (.iload_n 3, 3, 0, 0, []), (.iadd, 0, 0, 0, []), (.aload_n 0, 0, 0, 0, []), (.getfield 29, 10, 8, 2, []), (.bipush 80, 80, 0, 0, []), (.iload_n 1, 1, 0, 0, []), (.imul, 0, 0, 0, []), (.iload_n 3, 3, 0, 0, []), (.iadd, 0, 0, 0, []), (.iaload, 0, 0, 0, []), (.iastore, 0, 0, 0, []), (.iinc 3 1, 3, 0, 0, []), (.goto (-31), 2, 0, 0, [])]
def blX9_copy_36 : List aIn := [(.return_, 0, 0, 0, [])]
def bkX9_copy : List (Nat × List aIn) := [(0, blX9_copy_0), (2, blX9_copy_2), (8, blX9_copy_8), (36, blX9_copy_36)]
theorem bqX9_copy_0 : aLook bkX9_copy 0 = some blX9_copy_0 := rfl
theorem bqX9_copy_2 : aLook bkX9_copy 2 = some blX9_copy_2 := rfl
theorem bqX9_copy_8 : aLook bkX9_copy 8 = some blX9_copy_8 := rfl
theorem bqX9_copy_36 : aLook bkX9_copy 36 = some blX9_copy_36 := rfl
theorem boX9_copy : ∀ pc is, aLook bkX9_copy pc = some is → aBlk RX9 cX9_copy 4 false pc is := aBks_ok (lk := lkX9) lkX9_ok (by decide +kernel)
def blX9_isZero_0 : List aIn := [(.iconst 1, 1, 0, 0, []), (.istore_n 2, 2, 0, 0, []), (.iconst 0, 0, 0, 0, []), (.istore_n 3, 3, 0, 0, [])]
def blX9_isZero_4 : List aIn := [(.iload_n 3, 3, 0, 0, []), (.bipush 80, 80, 0, 0, []), (.if_icmp .ge 33, 40, 0, 0, [])]
def blX9_isZero_10 : List aIn := [(.iload_n 2, 2, 0, 0, []), (.ifCond .eq 21, 32, 0, 0, [])]
def blX9_isZero_14 : List aIn := [(.aload_n 0, 0, 0, 0, []), (.getfield 29, 10, 8, 2, []), (.bipush 80, 80, 0, 0, []), (.iload_n 1, 1, 0, 0, []), (.imul, 0, 0, 0, []), (.iload_n 3, 3, 0, 0, []), (.iadd, 0, 0, 0, []), (.iaload, 0, 0, 0, []), (.ifCond .ne 7, 32, 0, 0, [])]
def blX9_isZero_28 : List aIn := [(.iconst 1, 1, 0, 0, []), (.goto 4, 33, 0, 0, [])]
def blX9_isZero_32 : List aIn := [(.iconst 0, 0, 0, 0, [])]
def blX9_isZero_33 : List aIn := [(.istore_n 2, 2, 0, 0, []), (.iinc 3 1, 3, 0, 0, []), (.goto (-33), 4, 0, 0, [])]
def blX9_isZero_40 : List aIn := [(.iload_n 2, 2, 0, 0, []), (.ireturn, 0, 0, 0, [])]
def bkX9_isZero : List (Nat × List aIn) := [(0, blX9_isZero_0), (4, blX9_isZero_4), (10, blX9_isZero_10), (14, blX9_isZero_14), (28, blX9_isZero_28), (32, blX9_isZero_32), (33, blX9_isZero_33), (40, blX9_isZero_40)]
theorem bqX9_isZero_0 : aLook bkX9_isZero 0 = some blX9_isZero_0 := rfl
theorem bqX9_isZero_4 : aLook bkX9_isZero 4 = some blX9_isZero_4 := rfl
theorem bqX9_isZero_10 : aLook bkX9_isZero 10 = some blX9_isZero_10 := rfl
theorem bqX9_isZero_14 : aLook bkX9_isZero 14 = some blX9_isZero_14 := rfl
theorem bqX9_isZero_28 : aLook bkX9_isZero 28 = some blX9_isZero_28 := rfl
theorem bqX9_isZero_32 : aLook bkX9_isZero 32 = some blX9_isZero_32 := rfl
theorem bqX9_isZero_33 : aLook bkX9_isZero 33 = some blX9_isZero_33 := rfl
theorem bqX9_isZero_40 : aLook bkX9_isZero 40 = some blX9_isZero_40 := rfl
theorem boX9_isZero : ∀ pc is, aLook bkX9_isZero pc = some is → aBlk RX9 cX9_isZero 4 false pc is := aBks_ok (lk := lkX9) lkX9_ok (by decide +kernel)
def blX9_order_0 : List aIn := [(.bipush 79, 79, 0, 0, []), (.istore_n 3, 3, 0, 0, [])]
def blX9_order_3 : List aIn := [(.iload_n 3, 3, 0, 0, []), (.ifCond .lt 55, 59, 0, 0, [])]
def blX9_order_7 : List aIn := [(.aload_n 0, 0, 0, 0, []), (.getfield 29, 10, 8, 2, []), (.bipush 80, 80, 0, 0, []), (.iload_n 1, 1, 0, 0, []), (.imul, 0, 0, 0, []), (.iload_n 3, 3, 0, 0, []), (.iadd, 0, 0, 0, []), (.iaload, 0, 0, 0, []), (.istore 4, 4, 0, 0, []), (.aload_n 0, 0, 0, 0, []), (.getfield 29, 10, 8, 2, []), (.bipush 80, 80, 0, 0, []), (.iload_n 2, 2, 0, 0, []), (.imul, 0, 0, 0, []), (.iload_n 3, 3, 0, 0, []), (.iadd, 0, 0, 0, []), (.iaload, 0, 0, 0, []), (.istore 5, 5, 0, 0, []), (.iload 4, 4, 0, 0, []), (.iload 5, 5, 0, 0, []), (.if_icmp .eq 16, 53, 0, 0, [])]
def blX9_order_40 : List aIn := [(.iload 4, 4, 0, 0, []), (.iload 5, 5, 0, 0, []), (.if_icmp .ge 7, 51, 0, 0, [])]
def blX9_order_47 : List aIn := [(.iconst (-1), 1, 1, 0, []), (.goto 4, 52, 0, 0, [])]
def blX9_order_51 : List aIn := [(.iconst 1, 1, 0, 0, [])]
def blX9_order_52 : List aIn := [(.ireturn, 0, 0, 0, [])]
def blX9_order_53 : List aIn := [(.iinc 3 (-1), 3, 0, 0, []), (.goto (-53), 3, 0, 0, [])]
def blX9_order_59 : List aIn := [(.iconst 0, 0, 0, 0, []), (.ireturn, 0, 0, 0, [])]
def bkX9_order : List (Nat × List aIn) := [(0, blX9_order_0), (3, blX9_order_3), (7, blX9_order_7), (40, blX9_order_40), (47, blX9_order_47), (51, blX9_order_51), (52, blX9_order_52), (53, blX9_order_53), (59, blX9_order_59)]
theorem bqX9_order_0 : aLook bkX9_order 0 = some blX9_order_0 := rfl
theorem bqX9_order_3 : aLook bkX9_order 3 = some blX9_order_3 := rfl
theorem bqX9_order_7 : aLook bkX9_order 7 = some blX9_order_7 := rfl
theorem bqX9_order_40 : aLook bkX9_order 40 = some blX9_order_40 := rfl
theorem bqX9_order_47 : aLook bkX9_order 47 = some blX9_order_47 := rfl
theorem bqX9_order_51 : aLook bkX9_order 51 = some blX9_order_51 := rfl
theorem bqX9_order_52 : aLook bkX9_order 52 = some blX9_order_52 := rfl
theorem bqX9_order_53 : aLook bkX9_order 53 = some blX9_order_53 := rfl
theorem bqX9_order_59 : aLook bkX9_order 59 = some blX9_order_59 := rfl
theorem boX9_order : ∀ pc is, aLook bkX9_order pc = some is → aBlk RX9 cX9_order 6 false pc is := aBks_ok (lk := lkX9) lkX9_ok (by decide +kernel)
def blX9_add_0 : List aIn := [(.iconst 0, 0, 0, 0, []), (.istore_n 3, 3, 0, 0, []), (.iconst 0, 0, 0, 0, []), (.istore 4, 4, 0, 0, [])]
def blX9_add_5 : List aIn := [(.iload 4, 4, 0, 0, []), (.bipush 80, 80, 0, 0, []), (.if_icmp .ge 61, 70, 0, 0, [])]
def blX9_add_12 : List aIn := [(.aload_n 0, 0, 0, 0, []), (.getfield 29, 10, 8, 2, []), (.bipush 80, 80, 0, 0, []), (.iload_n 1, 1, 0, 0, []), (.imul, 0, 0, 0, []), (.iload 4, 4, 0, 0, []), (.iadd, 0, 0, 0, []), (.iaload, 0, 0, 0, []), (.aload_n 0, 0, 0, 0, []), (.getfield 29, 10, 8, 2, []), (.bipush 80, 80, 0, 0, []), (.iload_n 2, 2, 0, 0, []), (.imul, 0, 0, 0, []), (.iload 4, 4, 0, 0, []), (.iadd, 0, 0, 0, []), (.iaload, 0, 0, 0, []), (.iadd, 0, 0, 0, []), (.iload_n 3, 3, 0, 0, []), (.iadd, 0, 0, 0, []), (.istore 5, 5, 0, 0, []), (.aload_n 0, 0, 0, 0, []), (.getfield 29, 10, 8, 2, []), (.bipush 80, 80, 0, 0, []), (.iload_n 1, 1, 0, 0, []), (.imul, 0, 0, 0, []), (.iload 4, 4, 0, 0, []), (.iadd, 0, 0, 0, []), (.iload 5, 5, 0, 0, []), (.ldc 40, 65535, 0, 0, []), (.iand, 0, 0, 0, []), (.iastore, 0, 0, 0, []), (.iload 5, 5, 0, 0, []), (.bipush 16, 16, 0, 0, []), (.ishr, 0, 0, 0, []), (.istore_n 3, 3, 0, 0, []), (.iinc 4 1, 4, 0, 0, []), (.goto (-62), 5, 0, 0, [])]
def blX9_add_70 : List aIn := [(.return_, 0, 0, 0, [])]
def bkX9_add : List (Nat × List aIn) := [(0, blX9_add_0), (5, blX9_add_5), (12, blX9_add_12), (70, blX9_add_70)]
theorem bqX9_add_0 : aLook bkX9_add 0 = some blX9_add_0 := rfl
theorem bqX9_add_5 : aLook bkX9_add 5 = some blX9_add_5 := rfl
theorem bqX9_add_12 : aLook bkX9_add 12 = some blX9_add_12 := rfl
theorem bqX9_add_70 : aLook bkX9_add 70 = some blX9_add_70 := rfl
theorem boX9_add : ∀ pc is, aLook bkX9_add pc = some is → aBlk RX9 cX9_add 6 false pc is := aBks_ok (lk := lkX9) lkX9_ok (by decide +kernel)
def blX9_less_0 : List aIn := [(.iconst 0, 0, 0, 0, []), (.istore_n 3, 3, 0, 0, []), (.iconst 0, 0, 0, 0, []), (.istore 4, 4, 0, 0, [])]
def blX9_less_5 : List aIn := [(.iload 4, 4, 0, 0, []), (.bipush 80, 80, 0, 0, []), (.if_icmp .ge 66, 75, 0, 0, [])]
def blX9_less_12 : List aIn := [(.aload_n 0, 0, 0, 0, []), (.getfield 29, 10, 8, 2, []), (.bipush 80, 80, 0, 0, []), (.iload_n 1, 1, 0, 0, []), (.imul, 0, 0, 0, []), (.iload 4, 4, 0, 0, []), (.iadd, 0, 0, 0, []), (.iaload, 0, 0, 0, []), (.aload_n 0, 0, 0, 0, []), (.getfield 29, 10, 8, 2, []), (.bipush 80, 80, 0, 0, []), (.iload_n 2, 2, 0, 0, []), (.imul, 0, 0, 0, []), (.iload 4, 4, 0, 0, []), (.iadd, 0, 0, 0, []), (.iaload, 0, 0, 0, []), (.isub, 0, 0, 0, []), (.iload_n 3, 3, 0, 0, []), (.isub, 0, 0, 0, []), (.istore 5, 5, 0, 0, []), (.iload 5, 5, 0, 0, []), (.ifCond .ge 7, 50, 0, 0, [])]
def blX9_less_46 : List aIn := [(.iconst 1, 1, 0, 0, []), (.goto 4, 51, 0, 0, [])]
def blX9_less_50 : List aIn := [(.iconst 0, 0, 0, 0, [])]
def blX9_less_51 : List aIn := [(.istore_n 3, 3, 0, 0, []), (.aload_n 0, 0, 0, 0, []), (.getfield 29, 10, 8, 2, []), (.bipush 80, 80, 0, 0, []), (.iload_n 1, 1, 0, 0, []), (.imul, 0, 0, 0, []), (.iload 4, 4, 0, 0, []), (.iadd, 0, 0, 0, []), (.iload 5, 5, 0, 0, []), (.ldc 40, 65535, 0, 0, []), (.iand, 0, 0, 0, []), (.iastore, 0, 0, 0, []), (.iinc 4 1, 4, 0, 0, []), (.goto (-67), 5, 0, 0, [])]
def blX9_less_75 : List aIn := [(.return_, 0, 0, 0, [])]
def bkX9_less : List (Nat × List aIn) := [(0, blX9_less_0), (5, blX9_less_5), (12, blX9_less_12), (46, blX9_less_46), (50, blX9_less_50), (51, blX9_less_51), (75, blX9_less_75)]
theorem bqX9_less_0 : aLook bkX9_less 0 = some blX9_less_0 := rfl
theorem bqX9_less_5 : aLook bkX9_less 5 = some blX9_less_5 := rfl
theorem bqX9_less_12 : aLook bkX9_less 12 = some blX9_less_12 := rfl
theorem bqX9_less_46 : aLook bkX9_less 46 = some blX9_less_46 := rfl
theorem bqX9_less_50 : aLook bkX9_less 50 = some blX9_less_50 := rfl
theorem bqX9_less_51 : aLook bkX9_less 51 = some blX9_less_51 := rfl
theorem bqX9_less_75 : aLook bkX9_less 75 = some blX9_less_75 := rfl
theorem boX9_less : ∀ pc is, aLook bkX9_less pc = some is → aBlk RX9 cX9_less 6 false pc is := aBks_ok (lk := lkX9) lkX9_ok (by decide +kernel)
def blX9_times_0 : List aIn := [(.lconst 0, 0, 0, 0, []), (.lstore_n 3, 3, 0, 0, []), (.iconst 0, 0, 0, 0, []), (.istore 5, 5, 0, 0, [])]
def blX9_times_5 : List aIn := [(.iload 5, 5, 0, 0, []), (.bipush 80, 80, 0, 0, []), (.if_icmp .ge 54, 63, 0, 0, [])]
def blX9_times_12 : List aIn := [(.aload_n 0, 0, 0, 0, []), (.getfield 29, 10, 8, 2, []), (.bipush 80, 80, 0, 0, []), (.iload_n 1, 1, 0, 0, []), (.imul, 0, 0, 0, []), (.iload 5, 5, 0, 0, []), (.iadd, 0, 0, 0, []), (.iaload, 0, 0, 0, []), (.i2l, 0, 0, 0, []), (.iload_n 2, 2, 0, 0, []), (.i2l, 0, 0, 0, []), (.lmul, 0, 0, 0, []), (.lload_n 3, 3, 0, 0, []), (.ladd, 0, 0, 0, []), (.lstore 6, 6, 0, 0, []), (.aload_n 0, 0, 0, 0, []), (.getfield 29, 10, 8, 2, []), (.bipush 80, 80, 0, 0, []), (.iload_n 1, 1, 0, 0, []), (.imul, 0, 0, 0, []), (.iload 5, 5, 0, 0, []), (.iadd, 0, 0, 0, []), (.lload 6, 6, 0, 0, []), (.ldc2_w 41, 65535, 0, 0, []), (.land, 0, 0, 0, []), (.l2i, 0, 0, 0, []), (.iastore, 0, 0, 0, []), (.lload 6, 6, 0, 0, []), (.bipush 16, 16, 0, 0, []), (.lshr, 0, 0, 0, []), (.lstore_n 3, 3, 0, 0, []), (.iinc 5 1, 5, 0, 0, []), (.goto (-55), 5, 0, 0, [])]
def blX9_times_63 : List aIn := [(.return_, 0, 0, 0, [])]
def bkX9_times : List (Nat × List aIn) := [(0, blX9_times_0), (5, blX9_times_5), (12, blX9_times_12), (63, blX9_times_63)]
theorem bqX9_times_0 : aLook bkX9_times 0 = some blX9_times_0 := rfl
theorem bqX9_times_5 : aLook bkX9_times 5 = some blX9_times_5 := rfl
theorem bqX9_times_12 : aLook bkX9_times 12 = some blX9_times_12 := rfl
theorem bqX9_times_63 : aLook bkX9_times 63 = some blX9_times_63 := rfl
theorem boX9_times : ∀ pc is, aLook bkX9_times pc = some is → aBlk RX9 cX9_times 8 false pc is := aBks_ok (lk := lkX9) lkX9_ok (by decide +kernel)
def blX9_plus_0 : List aIn := [(.iload_n 2, 2, 0, 0, []), (.istore_n 3, 3, 0, 0, []), (.iconst 0, 0, 0, 0, []), (.istore 4, 4, 0, 0, [])]
def blX9_plus_5 : List aIn := [(.iload 4, 4, 0, 0, []), (.bipush 80, 80, 0, 0, []), (.if_icmp .ge 52, 61, 0, 0, [])]
def blX9_plus_12 : List aIn := [(.iload_n 3, 3, 0, 0, []), (.ifCond .le 48, 61, 0, 0, [])]
def blX9_plus_16 : List aIn := [(.aload_n 0, 0, 0, 0, []), (.getfield 29, 10, 8, 2, []), (.bipush 80, 80, 0, 0, []), (.iload_n 1, 1, 0, 0, []), (.imul, 0, 0, 0, []), (.iload 4, 4, 0, 0, []), (.iadd, 0, 0, 0, []), (.iaload, 0, 0, 0, []), (.iload_n 3, 3, 0, 0, []), (.iadd, 0, 0, 0, []), (.istore 5, 5, 0, 0, []), (.aload_n 0, 0, 0, 0, []), (.getfield 29, 10, 8, 2, []), (.bipush 80, 80, 0, 0, []), (.iload_n 1, 1, 0, 0, []), (.imul, 0, 0, 0, []), (.iload 4, 4, 0, 0, []), (.iadd, 0, 0, 0, []), (.iload 5, 5, 0, 0, []), (.ldc 40, 65535, 0, 0, []), (.iand, 0, 0, 0, []), (.iastore, 0, 0, 0, []), (.iload 5, 5, 0, 0, []), (.bipush 16, 16, 0, 0, []), (.ishr, 0, 0, 0, []), (.istore_n 3, 3, 0, 0, []), (.iinc 4 1, 4, 0, 0, []), (.goto (-53), 5, 0, 0, [])]
def blX9_plus_61 : List aIn := [(.return_, 0, 0, 0, [])]
def bkX9_plus : List (Nat × List aIn) := [(0, blX9_plus_0), (5, blX9_plus_5), (12, blX9_plus_12), (16, blX9_plus_16), (61, blX9_plus_61)]
theorem bqX9_plus_0 : aLook bkX9_plus 0 = some blX9_plus_0 := rfl
theorem bqX9_plus_5 : aLook bkX9_plus 5 = some blX9_plus_5 := rfl
theorem bqX9_plus_12 : aLook bkX9_plus 12 = some blX9_plus_12 := rfl
theorem bqX9_plus_16 : aLook bkX9_plus 16 = some blX9_plus_16 := rfl
theorem bqX9_plus_61 : aLook bkX9_plus 61 = some blX9_plus_61 := rfl
theorem boX9_plus : ∀ pc is, aLook bkX9_plus pc = some is → aBlk RX9 cX9_plus 6 false pc is := aBks_ok (lk := lkX9) lkX9_ok (by decide +kernel)
def blX9_tens_0 : List aIn := [(.iconst 0, 0, 0, 0, []), (.istore_n 3, 3, 0, 0, [])]
def blX9_tens_2 : List aIn := [(.iload_n 3, 3, 0, 0, []), (.iload_n 2, 2, 0, 0, []), (.if_icmp .ge 16, 20, 0, 0, [])]
def blX9_tens_7 : List aIn := [(.aload_n 0, 0, 0, 0, []), (.iload_n 1, 1, 0, 0, []), (.bipush 10, 10, 0, 0, []), (.invokevirtual 43, 3, 0, 0, [])]
def blX9_tens_14 : List aIn := [(.iinc 3 1, 3, 0, 0, []), (.goto (-15), 2, 0, 0, [])]
def blX9_tens_20 : List aIn := [(.return_, 0, 0, 0, [])]
def bkX9_tens : List (Nat × List aIn) := [(0, blX9_tens_0), (2, blX9_tens_2), (7, blX9_tens_7), (14, blX9_tens_14), (20, blX9_tens_20)]
theorem bqX9_tens_0 : aLook bkX9_tens 0 = some blX9_tens_0 := rfl
theorem bqX9_tens_2 : aLook bkX9_tens 2 = some blX9_tens_2 := rfl
theorem bqX9_tens_7 : aLook bkX9_tens 7 = some blX9_tens_7 := rfl
theorem bqX9_tens_14 : aLook bkX9_tens 14 = some blX9_tens_14 := rfl
theorem bqX9_tens_20 : aLook bkX9_tens 20 = some blX9_tens_20 := rfl
theorem boX9_tens : ∀ pc is, aLook bkX9_tens pc = some is → aBlk RX9 cX9_tens 4 false pc is := aBks_ok (lk := lkX9) lkX9_ok (by decide +kernel)
def blX9_twice_0 : List aIn := [(.iconst 0, 0, 0, 0, []), (.istore_n 3, 3, 0, 0, [])]
def blX9_twice_2 : List aIn := [(.iload_n 3, 3, 0, 0, []), (.iload_n 2, 2, 0, 0, []), (.if_icmp .ge 15, 19, 0, 0, [])]
def blX9_twice_7 : List aIn := [(.aload_n 0, 0, 0, 0, []), (.iload_n 1, 1, 0, 0, []), (.iconst 2, 2, 0, 0, []), (.invokevirtual 43, 3, 0, 0, [])]
def blX9_twice_13 : List aIn := [(.iinc 3 1, 3, 0, 0, []), (.goto (-14), 2, 0, 0, [])]
def blX9_twice_19 : List aIn := [(.return_, 0, 0, 0, [])]
def bkX9_twice : List (Nat × List aIn) := [(0, blX9_twice_0), (2, blX9_twice_2), (7, blX9_twice_7), (13, blX9_twice_13), (19, blX9_twice_19)]
theorem bqX9_twice_0 : aLook bkX9_twice 0 = some blX9_twice_0 := rfl
theorem bqX9_twice_2 : aLook bkX9_twice 2 = some blX9_twice_2 := rfl
theorem bqX9_twice_7 : aLook bkX9_twice 7 = some blX9_twice_7 := rfl
theorem bqX9_twice_13 : aLook bkX9_twice 13 = some blX9_twice_13 := rfl
theorem bqX9_twice_19 : aLook bkX9_twice 19 = some blX9_twice_19 := rfl
theorem boX9_twice : ∀ pc is, aLook bkX9_twice pc = some is → aBlk RX9 cX9_twice 4 false pc is := aBks_ok (lk := lkX9) lkX9_ok (by decide +kernel)
def blX9_product_0 : List aIn := [(.aload_n 0, 0, 0, 0, []), (.bipush 10, 10, 0, 0, []), (.invokevirtual 36, 2, 0, 0, [])]
def blX9_product_6 : List aIn := [(.iconst 0, 0, 0, 0, []), (.istore 4, 4, 0, 0, [])]
def blX9_product_9 : List aIn := [(.iload 4, 4, 0, 0, []), (.bipush 80, 80, 0, 0, []), (.if_icmp .ge 125, 138, 0, 0, [])]
def blX9_product_16 : List aIn := [(.aload_n 0, 0, 0, 0, []), (.getfield 29, 10, 8, 2, []), (.bipush 80, 80, 0, 0, []), (.iload_n 1, 1, 0, 0, []), (.imul, 0, 0, 0, []), (.iload 4, 4, 0, 0, []), (.iadd, 0, 0, 0, []), (.iaload, 0, 0, 0, []), (.ifCond .ne 6, 34, 0, 0, [])]
def blX9_product_31 : List aIn := [(.goto 101, 132, 0, 0, [])]
def blX9_product_34 : List aIn := [(.lconst 0, 0, 0, 0, []), (.lstore 5, 5, 0, 0, []), (.iconst 0, 0, 0, 0, []), (.istore 7, 7, 0, 0, [])]
def blX9_product_40 : List aIn := [(.iload 4, 4, 0, 0, []), (.iload 7, 7, 0, 0, []), (.iadd, 0, 0, 0, []), (.bipush 80, 80, 0, 0, []), (.if_icmp .ge 85, 132, 0, 0, [])]
def blX9_product_50 : List aIn := [(.aload_n 0, 0, 0, 0, []), (.getfield 29, 10, 8, 2, []), (.bipush 80, 80, 0, 0, []), (.iload_n 1, 1, 0, 0, []), (.imul, 0, 0, 0, []), (.iload 4, 4, 0, 0, []), (.iadd, 0, 0, 0, []), (.iaload, 0, 0, 0, []), (.i2l, 0, 0, 0, []), (.aload_n 0, 0, 0, 0, []), (.getfield 29, 10, 8, 2, []), (.bipush 80, 80, 0, 0, []), (.iload_n 2, 2, 0, 0, []), (.imul, 0, 0, 0, []), (.iload 7, 7, 0, 0, []), (.iadd, 0, 0, 0, []), (.iaload, 0, 0, 0, []), (.i2l, 0, 0, 0, []), (.lmul, 0, 0, 0, []), (.aload_n 0, 0, 0, 0, []), (.getfield 29, 10, 8, 2, []), (.sipush 800, 800, 0, 0, []), (.iload 4, 4, 0, 0, []), (.iadd, 0, 0, 0, []), (.iload 7, 7, 0, 0, []), (.iadd, 0, 0, 0, []), (.iaload, 0, 0, 0, []), (.i2l, 0, 0, 0, []), (.ladd, 0, 0, 0, []), (.lload 5, 5, 0, 0, []), (.ladd, 0, 0, 0, []), (.lstore 8, 8, 0, 0, []), (.aload_n 0, 0, 0, 0, []), (.getfield 29, 10, 8, 2, []), (.sipush 800, 800, 0, 0, []), (.iload 4, 4, 0, 0, []), (.iadd, 0, 0, 0, []), (.iload 7, 7, 0, 0, []), (.iadd, 0, 0, 0, []), (.lload 8, 8, 0, 0, []), (.ldc2_w 41, 65535, 0, 0, []), (.land, 0, 0, 0, []), (.l2i, 0, 0, 0, []), (.iastore, 0, 0, 0, []), (.lload 8, 8, 0, 0, []), (.bipush 16, 16, 0, 0, []), (.lshr, 0, 0, 0, []), (.lstore 5, 5, 0, 0, []), (.iinc 7 1, 7, 0, 0, []), (.goto (-89), 40, 0, 0, [])]
def blX9_product_132 : List aIn := [(.iinc 4 1, 4, 0, 0, []), (.goto (-126), 9, 0, 0, [])]
def blX9_product_138 : List aIn := [(.aload_n 0, 0, 0, 0, []), (.bipush 10, 10, 0, 0, []), (.iload_n 3, 3, 0, 0, []), (.invokevirtual 47, 3, 0, 0, [])]
def blX9_product_145 : List aIn := [(.return_, 0, 0, 0, [])]
def bkX9_product : List (Nat × List aIn) := [(0, blX9_product_0), (6, blX9_product_6), (9, blX9_product_9), (16, blX9_product_16), (31, blX9_product_31), (34, blX9_product_34), (40, blX9_product_40), (50, blX9_product_50), (132, blX9_product_132), (138, blX9_product_138), (145, blX9_product_145)]
theorem bqX9_product_0 : aLook bkX9_product 0 = some blX9_product_0 := rfl
theorem bqX9_product_6 : aLook bkX9_product 6 = some blX9_product_6 := rfl
theorem bqX9_product_9 : aLook bkX9_product 9 = some blX9_product_9 := rfl
theorem bqX9_product_16 : aLook bkX9_product 16 = some blX9_product_16 := rfl
theorem bqX9_product_31 : aLook bkX9_product 31 = some blX9_product_31 := rfl
theorem bqX9_product_34 : aLook bkX9_product 34 = some blX9_product_34 := rfl
theorem bqX9_product_40 : aLook bkX9_product 40 = some blX9_product_40 := rfl
theorem bqX9_product_50 : aLook bkX9_product 50 = some blX9_product_50 := rfl
theorem bqX9_product_132 : aLook bkX9_product 132 = some blX9_product_132 := rfl
theorem bqX9_product_138 : aLook bkX9_product 138 = some blX9_product_138 := rfl
theorem bqX9_product_145 : aLook bkX9_product 145 = some blX9_product_145 := rfl
theorem boX9_product : ∀ pc is, aLook bkX9_product pc = some is → aBlk RX9 cX9_product 10 false pc is := aBks_ok (lk := lkX9) lkX9_ok (by decide +kernel)
def blX9_bit_0 : List aIn := [(.aload_n 0, 0, 0, 0, []), (.getfield 29, 10, 8, 2, []), (.bipush 80, 80, 0, 0, []), (.iload_n 1, 1, 0, 0, []), (.imul, 0, 0, 0, []), (.iload_n 2, 2, 0, 0, []), (.bipush 16, 16, 0, 0, []), (.idiv, 0, 0, 0, []), (.iadd, 0, 0, 0, []), (.iaload, 0, 0, 0, []), (.iload_n 2, 2, 0, 0, []), (.bipush 16, 16, 0, 0, []), (.irem, 0, 0, 0, []), (.ishr, 0, 0, 0, []), (.iconst 1, 1, 0, 0, []), (.iand, 0, 0, 0, []), (.ireturn, 0, 0, 0, [])]
def bkX9_bit : List (Nat × List aIn) := [(0, blX9_bit_0)]
theorem bqX9_bit_0 : aLook bkX9_bit 0 = some blX9_bit_0 := rfl
theorem boX9_bit : ∀ pc is, aLook bkX9_bit pc = some is → aBlk RX9 cX9_bit 3 false pc is := aBks_ok (lk := lkX9) lkX9_ok (by decide +kernel)
def blX9_length_0 : List aIn := [(.sipush 1280, 1280, 0, 0, []), (.istore_n 2, 2, 0, 0, [])]
def blX9_length_4 : List aIn := [(.iload_n 2, 2, 0, 0, []), (.ifCond .le 20, 25, 0, 0, [])]
def blX9_length_8 : List aIn := [(.aload_n 0, 0, 0, 0, []), (.iload_n 1, 1, 0, 0, []), (.iload_n 2, 2, 0, 0, []), (.iconst 1, 1, 0, 0, []), (.isub, 0, 0, 0, []), (.invokevirtual 50, 3, 0, 0, [])]
def blX9_length_16 : List aIn := [(.ifCond .ne 9, 25, 0, 0, [])]
def blX9_length_19 : List aIn := [(.iinc 2 (-1), 2, 0, 0, []), (.goto (-18), 4, 0, 0, [])]
def blX9_length_25 : List aIn := [(.iload_n 2, 2, 0, 0, []), (.ireturn, 0, 0, 0, [])]
def bkX9_length : List (Nat × List aIn) := [(0, blX9_length_0), (4, blX9_length_4), (8, blX9_length_8), (16, blX9_length_16), (19, blX9_length_19), (25, blX9_length_25)]
theorem bqX9_length_0 : aLook bkX9_length 0 = some blX9_length_0 := rfl
theorem bqX9_length_4 : aLook bkX9_length 4 = some blX9_length_4 := rfl
theorem bqX9_length_8 : aLook bkX9_length 8 = some blX9_length_8 := rfl
theorem bqX9_length_16 : aLook bkX9_length 16 = some blX9_length_16 := rfl
theorem bqX9_length_19 : aLook bkX9_length 19 = some blX9_length_19 := rfl
theorem bqX9_length_25 : aLook bkX9_length 25 = some blX9_length_25 := rfl
theorem boX9_length : ∀ pc is, aLook bkX9_length pc = some is → aBlk RX9 cX9_length 3 false pc is := aBks_ok (lk := lkX9) lkX9_ok (by decide +kernel)
def blX9_divide_0 : List aIn := [(.aload_n 0, 0, 0, 0, []), (.bipush 6, 6, 0, 0, []), (.invokevirtual 36, 2, 0, 0, [])]
def blX9_divide_6 : List aIn := [(.aload_n 0, 0, 0, 0, []), (.bipush 7, 7, 0, 0, []), (.invokevirtual 36, 2, 0, 0, [])]
def blX9_divide_12 : List aIn := [(.aload_n 0, 0, 0, 0, []), (.iload_n 1, 1, 0, 0, []), (.invokevirtual 54, 2, 0, 0, [])]
def blX9_divide_17 : List aIn := [(.iconst 1, 1, 0, 0, []), (.isub, 0, 0, 0, []), (.istore_n 3, 3, 0, 0, [])]
def blX9_divide_20 : List aIn := [(.iload_n 3, 3, 0, 0, []), (.ifCond .lt 75, 96, 0, 0, [])]
def blX9_divide_24 : List aIn := [(.aload_n 0, 0, 0, 0, []), (.bipush 7, 7, 0, 0, []), (.iconst 2, 2, 0, 0, []), (.invokevirtual 43, 3, 0, 0, [])]
def blX9_divide_31 : List aIn := [(.aload_n 0, 0, 0, 0, []), (.getfield 29, 10, 8, 2, []), (.sipush 560, 560, 0, 0, []), (.dup2, 0, 0, 0, []), (.iaload, 0, 0, 0, []), (.aload_n 0, 0, 0, 0, []), (.iload_n 1, 1, 0, 0, []), (.iload_n 3, 3, 0, 0, []), (.invokevirtual 50, 3, 0, 0, [])]
def blX9_divide_46 : List aIn := [(.ior, 0, 0, 0, []), (.iastore, 0, 0, 0, []), (.aload_n 0, 0, 0, 0, []), (.bipush 7, 7, 0, 0, []), (.iload_n 2, 2, 0, 0, []), (.invokevirtual 58, 3, 0, 0, [])]
def blX9_divide_55 : List aIn := [(.ifCond .ge 6, 61, 0, 0, [])]
def blX9_divide_58 : List aIn := [(.goto 32, 90, 0, 0, [])]
def blX9_divide_61 : List aIn := [(.aload_n 0, 0, 0, 0, []), (.bipush 7, 7, 0, 0, []), (.iload_n 2, 2, 0, 0, []), (.invokevirtual 61, 3, 0, 0, [])]
def blX9_divide_68 : List aIn := [(.aload_n 0, 0, 0, 0, []), (.getfield 29, 10, 8, 2, []), (.sipush 480, 480, 0, 0, []), (.iload_n 3, 3, 0, 0, []), (.bipush 16, 16, 0, 0, []), (.idiv, 0, 0, 0, []), (.iadd, 0, 0, 0, []), (.dup2, 0, 0, 0, []), (.iaload, 0, 0, 0, []), (.iconst 1, 1, 0, 0, []), (.iload_n 3, 3, 0, 0, []), (.bipush 16, 16, 0, 0, []), (.irem, 0, 0, 0, []), (.ishl, 0, 0, 0, []), (.ior, 0, 0, 0, []), (.iastore, 0, 0, 0, [])]
def blX9_divide_90 : List aIn := [(.iinc 3 (-1), 3, 0, 0, []), (.goto (-73), 20, 0, 0, [])]
def blX9_divide_96 : List aIn := [(.return_, 0, 0, 0, [])]
def bkX9_divide : List (Nat × List aIn) := [(0, blX9_divide_0), (6, blX9_divide_6), (12, blX9_divide_12), (17, blX9_divide_17), (20, blX9_divide_20), (24, blX9_divide_24), (31, blX9_divide_31), (46, blX9_divide_46), (55, blX9_divide_55), (58, blX9_divide_58), (61, blX9_divide_61), (68, blX9_divide_68), (90, blX9_divide_90), (96, blX9_divide_96)]
theorem bqX9_divide_0 : aLook bkX9_divide 0 = some blX9_divide_0 := rfl
theorem bqX9_divide_6 : aLook bkX9_divide 6 = some blX9_divide_6 := rfl
theorem bqX9_divide_12 : aLook bkX9_divide 12 = some blX9_divide_12 := rfl
theorem bqX9_divide_17 : aLook bkX9_divide 17 = some blX9_divide_17 := rfl
theorem bqX9_divide_20 : aLook bkX9_divide 20 = some blX9_divide_20 := rfl
theorem bqX9_divide_24 : aLook bkX9_divide 24 = some blX9_divide_24 := rfl
theorem bqX9_divide_31 : aLook bkX9_divide 31 = some blX9_divide_31 := rfl
theorem bqX9_divide_46 : aLook bkX9_divide 46 = some blX9_divide_46 := rfl
theorem bqX9_divide_55 : aLook bkX9_divide 55 = some blX9_divide_55 := rfl
theorem bqX9_divide_58 : aLook bkX9_divide 58 = some blX9_divide_58 := rfl
theorem bqX9_divide_61 : aLook bkX9_divide 61 = some blX9_divide_61 := rfl
theorem bqX9_divide_68 : aLook bkX9_divide 68 = some blX9_divide_68 := rfl
theorem bqX9_divide_90 : aLook bkX9_divide 90 = some blX9_divide_90 := rfl
theorem bqX9_divide_96 : aLook bkX9_divide 96 = some blX9_divide_96 := rfl
theorem boX9_divide : ∀ pc is, aLook bkX9_divide pc = some is → aBlk RX9 cX9_divide 4 false pc is := aBks_ok (lk := lkX9) lkX9_ok (by decide +kernel)
def blX9_isNumber_0 : List aIn := [(.iload_n 1, 1, 0, 0, []), (.ifCond .lt 15, 16, 0, 0, [])]
def blX9_isNumber_4 : List aIn := [(.iload_n 1, 1, 0, 0, []), (.aload_n 0, 0, 0, 0, []), (.getfield 64, 10, 7, 0, []), (.if_icmp .ge 7, 16, 0, 0, [])]
def blX9_isNumber_12 : List aIn := [(.iconst 1, 1, 0, 0, []), (.goto 4, 17, 0, 0, [])]
def blX9_isNumber_16 : List aIn := [(.iconst 0, 0, 0, 0, [])]
def blX9_isNumber_17 : List aIn := [(.ireturn, 0, 0, 0, [])]
def bkX9_isNumber : List (Nat × List aIn) := [(0, blX9_isNumber_0), (4, blX9_isNumber_4), (12, blX9_isNumber_12), (16, blX9_isNumber_16), (17, blX9_isNumber_17)]
theorem bqX9_isNumber_0 : aLook bkX9_isNumber 0 = some blX9_isNumber_0 := rfl
theorem bqX9_isNumber_4 : aLook bkX9_isNumber 4 = some blX9_isNumber_4 := rfl
theorem bqX9_isNumber_12 : aLook bkX9_isNumber 12 = some blX9_isNumber_12 := rfl
theorem bqX9_isNumber_16 : aLook bkX9_isNumber 16 = some blX9_isNumber_16 := rfl
theorem bqX9_isNumber_17 : aLook bkX9_isNumber 17 = some blX9_isNumber_17 := rfl
theorem boX9_isNumber : ∀ pc is, aLook bkX9_isNumber pc = some is → aBlk RX9 cX9_isNumber 2 false pc is := aBks_ok (lk := lkX9) lkX9_ok (by decide +kernel)
def blX9_sizeOf_0 : List aIn := [(.iload_n 0, 0, 0, 0, []), (.tableswitch 109 2 11 #[55, 55, 109, 59, 59, 65, 65, 98, 100, 103], 2, 110, 0, [56, 56, 110, 60, 60, 66, 66, 99, 101, 104])]
def blX9_sizeOf_56 : List aIn := [(.iload_n 1, 1, 0, 0, []), (.iconst 1, 1, 0, 0, []), (.iadd, 0, 0, 0, []), (.ireturn, 0, 0, 0, [])]
def blX9_sizeOf_60 : List aIn := [(.iload_n 1, 1, 0, 0, []), (.iconst 2, 2, 0, 0, []), (.idiv, 0, 0, 0, []), (.iconst 1, 1, 0, 0, []), (.iadd, 0, 0, 0, []), (.ireturn, 0, 0, 0, [])]
def blX9_sizeOf_66 : List aIn := [(.iload_n 1, 1, 0, 0, []), (.iconst 5, 5, 0, 0, []), (.if_icmp .ge 7, 75, 0, 0, [])]
def blX9_sizeOf_71 : List aIn := [(.iconst 2, 2, 0, 0, []), (.goto 26, 98, 0, 0, [])]
def blX9_sizeOf_75 : List aIn := [(.iload_n 1, 1, 0, 0, []), (.bipush 10, 10, 0, 0, []), (.if_icmp .ge 7, 85, 0, 0, [])]
def blX9_sizeOf_81 : List aIn := [(.iconst 4, 4, 0, 0, []), (.goto 16, 98, 0, 0, [])]
def blX9_sizeOf_85 : List aIn := [(.iload_n 1, 1, 0, 0, []), (.bipush 19, 19, 0, 0, []), (.if_icmp .ge 8, 96, 0, 0, [])]
def blX9_sizeOf_91 : List aIn := [(.bipush 8, 8, 0, 0, []), (.goto 5, 98, 0, 0, [])]
def blX9_sizeOf_96 : List aIn := [(.bipush 16, 16, 0, 0, [])]
def blX9_sizeOf_98 : List aIn := [(.ireturn, 0, 0, 0, [])]
def blX9_sizeOf_99 : List aIn := [(.iconst 4, 4, 0, 0, []), (.ireturn, 0, 0, 0, [])]
def blX9_sizeOf_101 : List aIn := [(.bipush 8, 8, 0, 0, []), (.ireturn, 0, 0, 0, [])]
def blX9_sizeOf_104 : List aIn := [(.iconst 2, 2, 0, 0, []), (.iload_n 1, 1, 0, 0, []), (.imul, 0, 0, 0, []), (.iconst 2, 2, 0, 0, []), (.iadd, 0, 0, 0, []), (.ireturn, 0, 0, 0, [])]
def blX9_sizeOf_110 : List aIn := [(.iload_n 1, 1, 0, 0, []), (.ireturn, 0, 0, 0, [])]
def bkX9_sizeOf : List (Nat × List aIn) := [(0, blX9_sizeOf_0), (56, blX9_sizeOf_56), (60, blX9_sizeOf_60), (66, blX9_sizeOf_66), (71, blX9_sizeOf_71), (75, blX9_sizeOf_75), (81, blX9_sizeOf_81), (85, blX9_sizeOf_85), (91, blX9_sizeOf_91), (96, blX9_sizeOf_96), (98, blX9_sizeOf_98), (99, blX9_sizeOf_99), (101, blX9_sizeOf_101), (104, blX9_sizeOf_104), (110, blX9_sizeOf_110)]
theorem bqX9_sizeOf_0 : aLook bkX9_sizeOf 0 = some blX9_sizeOf_0 := rfl
theorem bqX9_sizeOf_56 : aLook bkX9_sizeOf 56 = some blX9_sizeOf_56 := rfl
theorem bqX9_sizeOf_60 : aLook bkX9_sizeOf 60 = some blX9_sizeOf_60 := rfl
theorem bqX9_sizeOf_66 : aLook bkX9_sizeOf 66 = some blX9_sizeOf_66 := rfl
theorem bqX9_sizeOf_71 : aLook bkX9_sizeOf 71 = some blX9_sizeOf_71 := rfl
theorem bqX9_sizeOf_75 : aLook bkX9_sizeOf 75 = some blX9_sizeOf_75 := rfl
theorem bqX9_sizeOf_81 : aLook bkX9_sizeOf 81 = some blX9_sizeOf_81 := rfl
theorem bqX9_sizeOf_85 : aLook bkX9_sizeOf 85 = some blX9_sizeOf_85 := rfl
theorem bqX9_sizeOf_91 : aLook bkX9_sizeOf 91 = some blX9_sizeOf_91 := rfl
theorem bqX9_sizeOf_96 : aLook bkX9_sizeOf 96 = some blX9_sizeOf_96 := rfl
theorem bqX9_sizeOf_98 : aLook bkX9_sizeOf 98 = some blX9_sizeOf_98 := rfl
theorem bqX9_sizeOf_99 : aLook bkX9_sizeOf 99 = some blX9_sizeOf_99 := rfl
theorem bqX9_sizeOf_101 : aLook bkX9_sizeOf 101 = some blX9_sizeOf_101 := rfl
theorem bqX9_sizeOf_104 : aLook bkX9_sizeOf 104 = some blX9_sizeOf_104 := rfl
theorem bqX9_sizeOf_110 : aLook bkX9_sizeOf 110 = some blX9_sizeOf_110 := rfl
theorem boX9_sizeOf : ∀ pc is, aLook bkX9_sizeOf pc = some is → aBlk RX9 cX9_sizeOf 2 false pc is := aBks_ok (lk := lkX9) lkX9_ok (by decide +kernel)
def blX9_number_0 : List aIn := [(.aload_n 0, 0, 0, 0, []), (.iload_n 2, 2, 0, 0, []), (.ifCond .ge 7, 9, 0, 0, [])]
def blX9_number_5 : List aIn := [(.iconst 1, 1, 0, 0, []), (.goto 4, 10, 0, 0, [])]
def blX9_number_9 : List aIn := [(.iconst 0, 0, 0, 0, [])]
def blX9_number_10 : List aIn := [(.iconst 0, 0, 0, 0, []), (.invokevirtual 67, 3, 0, 0, [])]
def blX9_number_14 : List aIn := [(.ifCond .eq 5, 19, 0, 0, [])]
def blX9_number_17 : List aIn := [(.iconst 0, 0, 0, 0, []), (.ireturn, 0, 0, 0, [])]
def blX9_number_19 : List aIn := [(.iload_n 1, 1, 0, 0, []), (.ifCond .lt 38, 58, 0, 0, [])]
def blX9_number_23 : List aIn := [(.iload_n 1, 1, 0, 0, []), (.bipush 11, 11, 0, 0, []), (.if_icmp .gt 32, 58, 0, 0, [])]
def blX9_number_29 : List aIn := [(.iload_n 2, 2, 0, 0, []), (.iconst 1, 1, 0, 0, []), (.if_icmp .lt 27, 58, 0, 0, [])]
def blX9_number_34 : List aIn := [(.iload_n 2, 2, 0, 0, []), (.bipush 31, 31, 0, 0, []), (.if_icmp .gt 21, 58, 0, 0, [])]
def blX9_number_40 : List aIn := [(.iload_n 3, 3, 0, 0, []), (.ifCond .lt 17, 58, 0, 0, [])]
def blX9_number_44 : List aIn := [(.iload_n 3, 3, 0, 0, []), (.iload_n 2, 2, 0, 0, []), (.if_icmp .gt 12, 58, 0, 0, [])]
def blX9_number_49 : List aIn := [(.aload_n 0, 0, 0, 0, []), (.getfield 64, 10, 7, 0, []), (.bipush 64, 64, 0, 0, []), (.if_icmp .ne 5, 60, 0, 0, [])]
def blX9_number_58 : List aIn := [(.iconst (-1), 1, 1, 0, []), (.ireturn, 0, 0, 0, [])]
def blX9_number_60 : List aIn := [(.aload_n 0, 0, 0, 0, []), (.getfield 13, 10, 2, 2, []), (.aload_n 0, 0, 0, 0, []), (.getfield 64, 10, 7, 0, []), (.iload_n 1, 1, 0, 0, []), (.iastore, 0, 0, 0, []), (.aload_n 0, 0, 0, 0, []), (.getfield 17, 10, 3, 2, []), (.aload_n 0, 0, 0, 0, []), (.getfield 64, 10, 7, 0, []), (.iload_n 2, 2, 0, 0, []), (.iastore, 0, 0, 0, []), (.aload_n 0, 0, 0, 0, []), (.getfield 20, 10, 4, 2, []), (.aload_n 0, 0, 0, 0, []), (.getfield 64, 10, 7, 0, []), (.iload_n 3, 3, 0, 0, []), (.iastore, 0, 0, 0, []), (.aload_n 0, 0, 0, 0, []), (.getfield 23, 10, 5, 2, []), (.aload_n 0, 0, 0, 0, []), (.getfield 64, 10, 7, 0, []), (.iload_n 1, 1, 0, 0, []), (.iload_n 2, 2, 0, 0, []), (.invokestatic 71, 2, 0, 0, [])]
def blX9_number_103 : List aIn := [(.iastore, 0, 0, 0, []), (.aload_n 0, 0, 0, 0, []), (.dup, 0, 0, 0, []), (.getfield 64, 10, 7, 0, []), (.iconst 1, 1, 0, 0, []), (.iadd, 0, 0, 0, []), (.putfield 64, 10, 7, 0, []), (.aload_n 0, 0, 0, 0, []), (.getfield 64, 10, 7, 0, []), (.iconst 1, 1, 0, 0, []), (.isub, 0, 0, 0, []), (.ireturn, 0, 0, 0, [])]
def bkX9_number : List (Nat × List aIn) := [(0, blX9_number_0), (5, blX9_number_5), (9, blX9_number_9), (10, blX9_number_10), (14, blX9_number_14), (17, blX9_number_17), (19, blX9_number_19), (23, blX9_number_23), (29, blX9_number_29), (34, blX9_number_34), (40, blX9_number_40), (44, blX9_number_44), (49, blX9_number_49), (58, blX9_number_58), (60, blX9_number_60), (103, blX9_number_103)]
theorem bqX9_number_0 : aLook bkX9_number 0 = some blX9_number_0 := rfl
theorem bqX9_number_5 : aLook bkX9_number 5 = some blX9_number_5 := rfl
theorem bqX9_number_9 : aLook bkX9_number 9 = some blX9_number_9 := rfl
theorem bqX9_number_10 : aLook bkX9_number 10 = some blX9_number_10 := rfl
theorem bqX9_number_14 : aLook bkX9_number 14 = some blX9_number_14 := rfl
theorem bqX9_number_17 : aLook bkX9_number 17 = some blX9_number_17 := rfl
theorem bqX9_number_19 : aLook bkX9_number 19 = some blX9_number_19 := rfl
theorem bqX9_number_23 : aLook bkX9_number 23 = some blX9_number_23 := rfl
theorem bqX9_number_29 : aLook bkX9_number 29 = some blX9_number_29 := rfl
theorem bqX9_number_34 : aLook bkX9_number 34 = some blX9_number_34 := rfl
theorem bqX9_number_40 : aLook bkX9_number 40 = some blX9_number_40 := rfl
theorem bqX9_number_44 : aLook bkX9_number 44 = some blX9_number_44 := rfl
theorem bqX9_number_49 : aLook bkX9_number 49 = some blX9_number_49 := rfl
theorem bqX9_number_58 : aLook bkX9_number 58 = some blX9_number_58 := rfl
theorem bqX9_number_60 : aLook bkX9_number 60 = some blX9_number_60 := rfl
theorem bqX9_number_103 : aLook bkX9_number 103 = some blX9_number_103 := rfl
theorem boX9_number : ∀ pc is, aLook bkX9_number pc = some is → aBlk RX9 cX9_number 4 false pc is := aBks_ok (lk := lkX9) lkX9_ok (by decide +kernel)
def blX9_isByte_0 : List aIn := [(.aload_n 0, 0, 0, 0, []), (.iload_n 1, 1, 0, 0, []), (.invokevirtual 74, 2, 0, 0, [])]
def blX9_isByte_5 : List aIn := [(.ifCond .eq 21, 26, 0, 0, [])]
def blX9_isByte_8 : List aIn := [(.iload_n 2, 2, 0, 0, []), (.ifCond .lt 17, 26, 0, 0, [])]
def blX9_isByte_12 : List aIn := [(.iload_n 2, 2, 0, 0, []), (.aload_n 0, 0, 0, 0, []), (.getfield 23, 10, 5, 2, []), (.iload_n 1, 1, 0, 0, []), (.iaload, 0, 0, 0, []), (.if_icmp .ge 7, 26, 0, 0, [])]
def blX9_isByte_22 : List aIn := [(.iconst 1, 1, 0, 0, []), (.goto 4, 27, 0, 0, [])]
def blX9_isByte_26 : List aIn := [(.iconst 0, 0, 0, 0, [])]
def blX9_isByte_27 : List aIn := [(.ireturn, 0, 0, 0, [])]
def bkX9_isByte : List (Nat × List aIn) := [(0, blX9_isByte_0), (5, blX9_isByte_5), (8, blX9_isByte_8), (12, blX9_isByte_12), (22, blX9_isByte_22), (26, blX9_isByte_26), (27, blX9_isByte_27)]
theorem bqX9_isByte_0 : aLook bkX9_isByte 0 = some blX9_isByte_0 := rfl
theorem bqX9_isByte_5 : aLook bkX9_isByte 5 = some blX9_isByte_5 := rfl
theorem bqX9_isByte_8 : aLook bkX9_isByte 8 = some blX9_isByte_8 := rfl
theorem bqX9_isByte_12 : aLook bkX9_isByte 12 = some blX9_isByte_12 := rfl
theorem bqX9_isByte_22 : aLook bkX9_isByte 22 = some blX9_isByte_22 := rfl
theorem bqX9_isByte_26 : aLook bkX9_isByte 26 = some blX9_isByte_26 := rfl
theorem bqX9_isByte_27 : aLook bkX9_isByte 27 = some blX9_isByte_27 := rfl
theorem boX9_isByte : ∀ pc is, aLook bkX9_isByte pc = some is → aBlk RX9 cX9_isByte 3 false pc is := aBks_ok (lk := lkX9) lkX9_ok (by decide +kernel)
def blX9_octet_0 : List aIn := [(.aload_n 0, 0, 0, 0, []), (.aload_n 0, 0, 0, 0, []), (.iload_n 1, 1, 0, 0, []), (.iload_n 2, 2, 0, 0, []), (.invokevirtual 78, 3, 0, 0, [])]
def blX9_octet_7 : List aIn := [(.ifCond .ne 7, 14, 0, 0, [])]
def blX9_octet_10 : List aIn := [(.iconst 1, 1, 0, 0, []), (.goto 4, 15, 0, 0, [])]
def blX9_octet_14 : List aIn := [(.iconst 0, 0, 0, 0, [])]
def blX9_octet_15 : List aIn := [(.iconst 0, 0, 0, 0, []), (.invokevirtual 67, 3, 0, 0, [])]
def blX9_octet_19 : List aIn := [(.ifCond .eq 4, 23, 0, 0, [])]
def blX9_octet_22 : List aIn := [(.return_, 0, 0, 0, [])]
def blX9_octet_23 : List aIn := [(.aload_n 0, 0, 0, 0, []), (.getfield 7, 10, 1, 2, []), (.bipush 64, 64, 0, 0, []), (.iload_n 1, 1, 0, 0, []), (.imul, 0, 0, 0, []), (.iload_n 2, 2, 0, 0, []), (.iadd, 0, 0, 0, []), (.iload_n 3, 3, 0, 0, []), (.bastore, 0, 0, 0, []), (.return_, 0, 0, 0, [])]
def bkX9_octet : List (Nat × List aIn) := [(0, blX9_octet_0), (7, blX9_octet_7), (10, blX9_octet_10), (14, blX9_octet_14), (15, blX9_octet_15), (19, blX9_octet_19), (22, blX9_octet_22), (23, blX9_octet_23)]
theorem bqX9_octet_0 : aLook bkX9_octet 0 = some blX9_octet_0 := rfl
theorem bqX9_octet_7 : aLook bkX9_octet 7 = some blX9_octet_7 := rfl
theorem bqX9_octet_10 : aLook bkX9_octet 10 = some blX9_octet_10 := rfl
theorem bqX9_octet_14 : aLook bkX9_octet 14 = some blX9_octet_14 := rfl
theorem bqX9_octet_15 : aLook bkX9_octet 15 = some blX9_octet_15 := rfl
theorem bqX9_octet_19 : aLook bkX9_octet 19 = some blX9_octet_19 := rfl
theorem bqX9_octet_22 : aLook bkX9_octet 22 = some blX9_octet_22 := rfl
theorem bqX9_octet_23 : aLook bkX9_octet 23 = some blX9_octet_23 := rfl
theorem boX9_octet : ∀ pc is, aLook bkX9_octet pc = some is → aBlk RX9 cX9_octet 4 false pc is := aBks_ok (lk := lkX9) lkX9_ok (by decide +kernel)
def blX9_at_0 : List aIn := [(.aload_n 0, 0, 0, 0, []), (.aload_n 0, 0, 0, 0, []), (.iload_n 1, 1, 0, 0, []), (.iload_n 2, 2, 0, 0, []), (.invokevirtual 78, 3, 0, 0, [])]
def blX9_at_7 : List aIn := [(.ifCond .ne 7, 14, 0, 0, [])]
def blX9_at_10 : List aIn := [(.iconst 1, 1, 0, 0, []), (.goto 4, 15, 0, 0, [])]
def blX9_at_14 : List aIn := [(.iconst 0, 0, 0, 0, [])]
def blX9_at_15 : List aIn := [(.iconst 0, 0, 0, 0, []), (.invokevirtual 67, 3, 0, 0, [])]
def blX9_at_19 : List aIn := [(.ifCond .eq 5, 24, 0, 0, [])]
def blX9_at_22 : List aIn := [(.iconst 0, 0, 0, 0, []), (.ireturn, 0, 0, 0, [])]
def blX9_at_24 : List aIn := [(.aload_n 0, 0, 0, 0, []), (.getfield 7, 10, 1, 2, []), (.bipush 64, 64, 0, 0, []), (.iload_n 1, 1, 0, 0, []), (.imul, 0, 0, 0, []), (.iload_n 2, 2, 0, 0, []), (.iadd, 0, 0, 0, []), (.baload, 0, 0, 0, []), (.ireturn, 0, 0, 0, [])]
def bkX9_at : List (Nat × List aIn) := [(0, blX9_at_0), (7, blX9_at_7), (10, blX9_at_10), (14, blX9_at_14), (15, blX9_at_15), (19, blX9_at_19), (22, blX9_at_22), (24, blX9_at_24)]
theorem bqX9_at_0 : aLook bkX9_at 0 = some blX9_at_0 := rfl
theorem bqX9_at_7 : aLook bkX9_at 7 = some blX9_at_7 := rfl
theorem bqX9_at_10 : aLook bkX9_at 10 = some blX9_at_10 := rfl
theorem bqX9_at_14 : aLook bkX9_at 14 = some blX9_at_14 := rfl
theorem bqX9_at_15 : aLook bkX9_at 15 = some blX9_at_15 := rfl
theorem bqX9_at_19 : aLook bkX9_at 19 = some blX9_at_19 := rfl
theorem bqX9_at_22 : aLook bkX9_at 22 = some blX9_at_22 := rfl
theorem bqX9_at_24 : aLook bkX9_at 24 = some blX9_at_24 := rfl
theorem boX9_at : ∀ pc is, aLook bkX9_at pc = some is → aBlk RX9 cX9_at 3 false pc is := aBks_ok (lk := lkX9) lkX9_ok (by decide +kernel)
def blX9_size_0 : List aIn := [(.aload_n 0, 0, 0, 0, []), (.aload_n 0, 0, 0, 0, []), (.iload_n 1, 1, 0, 0, []), (.invokevirtual 74, 2, 0, 0, [])]
def blX9_size_6 : List aIn := [(.ifCond .ne 7, 13, 0, 0, [])]
def blX9_size_9 : List aIn := [(.iconst 1, 1, 0, 0, []), (.goto 4, 14, 0, 0, [])]
def blX9_size_13 : List aIn := [(.iconst 0, 0, 0, 0, [])]
def blX9_size_14 : List aIn := [(.iconst 0, 0, 0, 0, []), (.invokevirtual 67, 3, 0, 0, [])]
def blX9_size_18 : List aIn := [(.ifCond .eq 5, 23, 0, 0, [])]
def blX9_size_21 : List aIn := [(.iconst 0, 0, 0, 0, []), (.ireturn, 0, 0, 0, [])]
def blX9_size_23 : List aIn := [(.aload_n 0, 0, 0, 0, []), (.getfield 23, 10, 5, 2, []), (.iload_n 1, 1, 0, 0, []), (.iaload, 0, 0, 0, []), (.ireturn, 0, 0, 0, [])]
def bkX9_size : List (Nat × List aIn) := [(0, blX9_size_0), (6, blX9_size_6), (9, blX9_size_9), (13, blX9_size_13), (14, blX9_size_14), (18, blX9_size_18), (21, blX9_size_21), (23, blX9_size_23)]
theorem bqX9_size_0 : aLook bkX9_size 0 = some blX9_size_0 := rfl
theorem bqX9_size_6 : aLook bkX9_size 6 = some blX9_size_6 := rfl
theorem bqX9_size_9 : aLook bkX9_size 9 = some blX9_size_9 := rfl
theorem bqX9_size_13 : aLook bkX9_size 13 = some blX9_size_13 := rfl
theorem bqX9_size_14 : aLook bkX9_size 14 = some blX9_size_14 := rfl
theorem bqX9_size_18 : aLook bkX9_size 18 = some blX9_size_18 := rfl
theorem bqX9_size_21 : aLook bkX9_size 21 = some blX9_size_21 := rfl
theorem bqX9_size_23 : aLook bkX9_size 23 = some blX9_size_23 := rfl
theorem boX9_size : ∀ pc is, aLook bkX9_size pc = some is → aBlk RX9 cX9_size 2 false pc is := aBks_ok (lk := lkX9) lkX9_ok (by decide +kernel)
def blX9_read_0 : List aIn := [(.aload_n 0, 0, 0, 0, []), (.getfield 7, 10, 1, 2, []), (.bipush 64, 64, 0, 0, []), (.iload_n 1, 1, 0, 0, []), (.imul, 0, 0, 0, []), (.iload_n 2, 2, 0, 0, []), (.iadd, 0, 0, 0, []), (.baload, 0, 0, 0, []), (.sipush 255, 255, 0, 0, []), (.iand, 0, 0, 0, []), (.ireturn, 0, 0, 0, [])]
def bkX9_read : List (Nat × List aIn) := [(0, blX9_read_0)]
theorem bqX9_read_0 : aLook bkX9_read 0 = some blX9_read_0 := rfl
theorem boX9_read : ∀ pc is, aLook bkX9_read pc = some is → aBlk RX9 cX9_read 3 false pc is := aBks_ok (lk := lkX9) lkX9_ok (by decide +kernel)
def blX9_signOf_0 : List aIn := [(.iload_n 0, 0, 0, 0, []), (.bipush 10, 10, 0, 0, []), (.if_icmp .eq 15, 18, 0, 0, [])]
def blX9_signOf_6 : List aIn := [(.iload_n 0, 0, 0, 0, []), (.bipush 12, 12, 0, 0, []), (.if_icmp .eq 9, 18, 0, 0, [])]
def blX9_signOf_12 : List aIn := [(.iload_n 0, 0, 0, 0, []), (.bipush 13, 13, 0, 0, []), (.if_icmp .le 7, 22, 0, 0, [])]
def blX9_signOf_18 : List aIn := [(.iconst 1, 1, 0, 0, []), (.goto 20, 39, 0, 0, [])]
def blX9_signOf_22 : List aIn := [(.iload_n 0, 0, 0, 0, []), (.bipush 11, 11, 0, 0, []), (.if_icmp .eq 9, 34, 0, 0, [])]
def blX9_signOf_28 : List aIn := [(.iload_n 0, 0, 0, 0, []), (.bipush 13, 13, 0, 0, []), (.if_icmp .ne 7, 38, 0, 0, [])]
def blX9_signOf_34 : List aIn := [(.iconst (-1), 1, 1, 0, []), (.goto 4, 39, 0, 0, [])]
def blX9_signOf_38 : List aIn := [(.iconst 0, 0, 0, 0, [])]
def blX9_signOf_39 : List aIn := [(.ireturn, 0, 0, 0, [])]
def bkX9_signOf : List (Nat × List aIn) := [(0, blX9_signOf_0), (6, blX9_signOf_6), (12, blX9_signOf_12), (18, blX9_signOf_18), (22, blX9_signOf_22), (28, blX9_signOf_28), (34, blX9_signOf_34), (38, blX9_signOf_38), (39, blX9_signOf_39)]
theorem bqX9_signOf_0 : aLook bkX9_signOf 0 = some blX9_signOf_0 := rfl
theorem bqX9_signOf_6 : aLook bkX9_signOf 6 = some blX9_signOf_6 := rfl
theorem bqX9_signOf_12 : aLook bkX9_signOf 12 = some blX9_signOf_12 := rfl
theorem bqX9_signOf_18 : aLook bkX9_signOf 18 = some blX9_signOf_18 := rfl
theorem bqX9_signOf_22 : aLook bkX9_signOf 22 = some blX9_signOf_22 := rfl
theorem bqX9_signOf_28 : aLook bkX9_signOf 28 = some blX9_signOf_28 := rfl
theorem bqX9_signOf_34 : aLook bkX9_signOf 34 = some blX9_signOf_34 := rfl
theorem bqX9_signOf_38 : aLook bkX9_signOf 38 = some blX9_signOf_38 := rfl
theorem bqX9_signOf_39 : aLook bkX9_signOf 39 = some blX9_signOf_39 := rfl
theorem boX9_signOf : ∀ pc is, aLook bkX9_signOf pc = some is → aBlk RX9 cX9_signOf 1 false pc is := aBks_ok (lk := lkX9) lkX9_ok (by decide +kernel)
def blX9_gains_0 : List aIn := [(.aload_n 0, 0, 0, 0, []), (.iconst 0, 0, 0, 0, []), (.bipush 10, 10, 0, 0, []), (.invokevirtual 43, 3, 0, 0, [])]
def blX9_gains_7 : List aIn := [(.aload_n 0, 0, 0, 0, []), (.iconst 0, 0, 0, 0, []), (.iload_n 1, 1, 0, 0, []), (.bipush 10, 10, 0, 0, []), (.if_icmp .ge 7, 19, 0, 0, [])]
def blX9_gains_15 : List aIn := [(.iload_n 1, 1, 0, 0, []), (.goto 4, 20, 0, 0, [])]
def blX9_gains_19 : List aIn := [(.iconst 0, 0, 0, 0, [])]
def blX9_gains_20 : List aIn := [(.invokevirtual 82, 3, 0, 0, [])]
def blX9_gains_23 : List aIn := [(.iload_n 1, 1, 0, 0, []), (.bipush 10, 10, 0, 0, []), (.if_icmp .ge 7, 33, 0, 0, [])]
def blX9_gains_29 : List aIn := [(.iconst 1, 1, 0, 0, []), (.goto 4, 34, 0, 0, [])]
def blX9_gains_33 : List aIn := [(.iconst 0, 0, 0, 0, [])]
def blX9_gains_34 : List aIn := [(.ireturn, 0, 0, 0, [])]
def bkX9_gains : List (Nat × List aIn) := [(0, blX9_gains_0), (7, blX9_gains_7), (15, blX9_gains_15), (19, blX9_gains_19), (20, blX9_gains_20), (23, blX9_gains_23), (29, blX9_gains_29), (33, blX9_gains_33), (34, blX9_gains_34)]
theorem bqX9_gains_0 : aLook bkX9_gains 0 = some blX9_gains_0 := rfl
theorem bqX9_gains_7 : aLook bkX9_gains 7 = some blX9_gains_7 := rfl
theorem bqX9_gains_15 : aLook bkX9_gains 15 = some blX9_gains_15 := rfl
theorem bqX9_gains_19 : aLook bkX9_gains 19 = some blX9_gains_19 := rfl
theorem bqX9_gains_20 : aLook bkX9_gains 20 = some blX9_gains_20 := rfl
theorem bqX9_gains_23 : aLook bkX9_gains 23 = some blX9_gains_23 := rfl
theorem bqX9_gains_29 : aLook bkX9_gains 29 = some blX9_gains_29 := rfl
theorem bqX9_gains_33 : aLook bkX9_gains 33 = some blX9_gains_33 := rfl
theorem bqX9_gains_34 : aLook bkX9_gains 34 = some blX9_gains_34 := rfl
theorem boX9_gains : ∀ pc is, aLook bkX9_gains pc = some is → aBlk RX9 cX9_gains 2 false pc is := aBks_ok (lk := lkX9) lkX9_ok (by decide +kernel)
def blX9_load_0 : List aIn := [(.aload_n 0, 0, 0, 0, []), (.getfield 13, 10, 2, 2, []), (.iload_n 1, 1, 0, 0, []), (.iaload, 0, 0, 0, []), (.istore_n 2, 2, 0, 0, []), (.aload_n 0, 0, 0, 0, []), (.iconst 0, 0, 0, 0, []), (.iconst 0, 0, 0, 0, []), (.invokevirtual 85, 3, 0, 0, [])]
def blX9_load_13 : List aIn := [(.aload_n 0, 0, 0, 0, []), (.iconst 1, 1, 0, 0, []), (.iconst 1, 1, 0, 0, []), (.invokevirtual 85, 3, 0, 0, [])]
def blX9_load_19 : List aIn := [(.aload_n 0, 0, 0, 0, []), (.iconst 1, 1, 0, 0, []), (.putfield 88, 10, 9, 0, []), (.iload_n 2, 2, 0, 0, []), (.iconst 5, 5, 0, 0, []), (.if_icmp .lt 9, 35, 0, 0, [])]
def blX9_load_29 : List aIn := [(.iload_n 2, 2, 0, 0, []), (.bipush 11, 11, 0, 0, []), (.if_icmp .ne 12, 44, 0, 0, [])]
def blX9_load_35 : List aIn := [(.aload_n 0, 0, 0, 0, []), (.iload_n 1, 1, 0, 0, []), (.iload_n 2, 2, 0, 0, []), (.invokevirtual 91, 3, 0, 0, [])]
def blX9_load_41 : List aIn := [(.goto 36, 77, 0, 0, [])]
def blX9_load_44 : List aIn := [(.iload_n 2, 2, 0, 0, []), (.bipush 7, 7, 0, 0, []), (.if_icmp .ge 11, 58, 0, 0, [])]
def blX9_load_50 : List aIn := [(.aload_n 0, 0, 0, 0, []), (.iload_n 1, 1, 0, 0, []), (.invokevirtual 94, 2, 0, 0, [])]
def blX9_load_55 : List aIn := [(.goto 22, 77, 0, 0, [])]
def blX9_load_58 : List aIn := [(.iload_n 2, 2, 0, 0, []), (.bipush 9, 9, 0, 0, []), (.if_icmp .ge 11, 72, 0, 0, [])]
def blX9_load_64 : List aIn := [(.aload_n 0, 0, 0, 0, []), (.iload_n 1, 1, 0, 0, []), (.invokevirtual 97, 2, 0, 0, [])]
def blX9_load_69 : List aIn := [(.goto 8, 77, 0, 0, [])]
def blX9_load_72 : List aIn := [(.aload_n 0, 0, 0, 0, []), (.iload_n 1, 1, 0, 0, []), (.invokevirtual 100, 2, 0, 0, [])]
def blX9_load_77 : List aIn := [(.istore_n 3, 3, 0, 0, []), (.iload_n 2, 2, 0, 0, []), (.bipush 9, 9, 0, 0, []), (.if_icmp .lt 9, 90, 0, 0, [])]
def blX9_load_84 : List aIn := [(.iload_n 2, 2, 0, 0, []), (.bipush 11, 11, 0, 0, []), (.if_icmp .ne 14, 101, 0, 0, [])]
def blX9_load_90 : List aIn := [(.aload_n 0, 0, 0, 0, []), (.iconst 1, 1, 0, 0, []), (.aload_n 0, 0, 0, 0, []), (.getfield 20, 10, 4, 2, []), (.iload_n 1, 1, 0, 0, []), (.iaload, 0, 0, 0, []), (.invokevirtual 103, 3, 0, 0, [])]
def blX9_load_101 : List aIn := [(.aload_n 0, 0, 0, 0, []), (.aload_n 0, 0, 0, 0, []), (.iconst 0, 0, 0, 0, []), (.invokevirtual 106, 2, 0, 0, [])]
def blX9_load_107 : List aIn := [(.ifCond .eq 7, 114, 0, 0, [])]
def blX9_load_110 : List aIn := [(.iconst 0, 0, 0, 0, []), (.goto 7, 118, 0, 0, [])]
def blX9_load_114 : List aIn := [(.aload_n 0, 0, 0, 0, []), (.getfield 88, 10, 9, 0, [])]
def blX9_load_118 : List aIn := [(.putfield 88, 10, 9, 0, []), (.iload_n 3, 3, 0, 0, []), (.ireturn, 0, 0, 0, [])]
def bkX9_load : List (Nat × List aIn) := [(0, blX9_load_0), (13, blX9_load_13), (19, blX9_load_19), (29, blX9_load_29), (35, blX9_load_35), (41, blX9_load_41), (44, blX9_load_44), (50, blX9_load_50), (55, blX9_load_55), (58, blX9_load_58), (64, blX9_load_64), (69, blX9_load_69), (72, blX9_load_72), (77, blX9_load_77), (84, blX9_load_84), (90, blX9_load_90), (101, blX9_load_101), (107, blX9_load_107), (110, blX9_load_110), (114, blX9_load_114), (118, blX9_load_118)]
theorem bqX9_load_0 : aLook bkX9_load 0 = some blX9_load_0 := rfl
theorem bqX9_load_13 : aLook bkX9_load 13 = some blX9_load_13 := rfl
theorem bqX9_load_19 : aLook bkX9_load 19 = some blX9_load_19 := rfl
theorem bqX9_load_29 : aLook bkX9_load 29 = some blX9_load_29 := rfl
theorem bqX9_load_35 : aLook bkX9_load 35 = some blX9_load_35 := rfl
theorem bqX9_load_41 : aLook bkX9_load 41 = some blX9_load_41 := rfl
theorem bqX9_load_44 : aLook bkX9_load 44 = some blX9_load_44 := rfl
theorem bqX9_load_50 : aLook bkX9_load 50 = some blX9_load_50 := rfl
theorem bqX9_load_55 : aLook bkX9_load 55 = some blX9_load_55 := rfl
theorem bqX9_load_58 : aLook bkX9_load 58 = some blX9_load_58 := rfl
theorem bqX9_load_64 : aLook bkX9_load 64 = some blX9_load_64 := rfl
theorem bqX9_load_69 : aLook bkX9_load 69 = some blX9_load_69 := rfl
theorem bqX9_load_72 : aLook bkX9_load 72 = some blX9_load_72 := rfl
theorem bqX9_load_77 : aLook bkX9_load 77 = some blX9_load_77 := rfl
theorem bqX9_load_84 : aLook bkX9_load 84 = some blX9_load_84 := rfl
theorem bqX9_load_90 : aLook bkX9_load 90 = some blX9_load_90 := rfl
theorem bqX9_load_101 : aLook bkX9_load 101 = some blX9_load_101 := rfl
theorem bqX9_load_107 : aLook bkX9_load 107 = some blX9_load_107 := rfl
theorem bqX9_load_110 : aLook bkX9_load 110 = some blX9_load_110 := rfl
theorem bqX9_load_114 : aLook bkX9_load 114 = some blX9_load_114 := rfl
theorem bqX9_load_118 : aLook bkX9_load 118 = some blX9_load_118 := rfl
theorem boX9_load : ∀ pc is, aLook bkX9_load pc = some is → aBlk RX9 cX9_load 4 false pc is := aBks_ok (lk := lkX9) lkX9_ok (by decide +kernel)
def blX9_loadZoned_0 : List aIn := [(.iconst 1, 1, 0, 0, []), (.istore_n 3, 3, 0, 0, []), (.aload_n 0, 0, 0, 0, []), (.getfield 17, 10, 3, 2, []), (.iload_n 1, 1, 0, 0, []), (.iaload, 0, 0, 0, []), (.istore 4, 4, 0, 0, []), (.iconst 0, 0, 0, 0, []), (.istore 5, 5, 0, 0, [])]
def blX9_loadZoned_13 : List aIn := [(.iload 5, 5, 0, 0, []), (.iload 4, 4, 0, 0, []), (.if_icmp .ge 186, 203, 0, 0, [])]
def blX9_loadZoned_20 : List aIn := [(.iload_n 2, 2, 0, 0, []), (.bipush 11, 11, 0, 0, []), (.if_icmp .ne 17, 40, 0, 0, [])]
def blX9_loadZoned_26 : List aIn := [(.aload_n 0, 0, 0, 0, []), (.iload_n 1, 1, 0, 0, []), (.iconst 2, 2, 0, 0, []), (.iload 5, 5, 0, 0, []), (.imul, 0, 0, 0, []), (.iconst 1, 1, 0, 0, []), (.iadd, 0, 0, 0, []), (.invokevirtual 109, 3, 0, 0, [])]
def blX9_loadZoned_37 : List aIn := [(.goto 22, 59, 0, 0, [])]
def blX9_loadZoned_40 : List aIn := [(.aload_n 0, 0, 0, 0, []), (.iload_n 1, 1, 0, 0, []), (.iload_n 2, 2, 0, 0, []), (.iconst 3, 3, 0, 0, []), (.if_icmp .ne 10, 54, 0, 0, [])]
def blX9_loadZoned_47 : List aIn := [(.iload 5, 5, 0, 0, []), (.iconst 1, 1, 0, 0, []), (.iadd, 0, 0, 0, []), (.goto 5, 56, 0, 0, [])]
def blX9_loadZoned_54 : List aIn := [(.iload 5, 5, 0, 0, [])]
def blX9_loadZoned_56 : List aIn := [(.invokevirtual 109, 3, 0, 0, [])]
def blX9_loadZoned_59 : List aIn := [(.istore 6, 6, 0, 0, []), (.iload_n 2, 2, 0, 0, []), (.ifCond .ne 12, 74, 0, 0, [])]
def blX9_loadZoned_65 : List aIn := [(.iload 5, 5, 0, 0, []), (.iload 4, 4, 0, 0, []), (.iconst 1, 1, 0, 0, []), (.isub, 0, 0, 0, []), (.if_icmp .eq 13, 84, 0, 0, [])]
def blX9_loadZoned_74 : List aIn := [(.iload_n 2, 2, 0, 0, []), (.iconst 1, 1, 0, 0, []), (.if_icmp .ne 12, 88, 0, 0, [])]
def blX9_loadZoned_79 : List aIn := [(.iload 5, 5, 0, 0, []), (.ifCond .ne 7, 88, 0, 0, [])]
def blX9_loadZoned_84 : List aIn := [(.iconst 1, 1, 0, 0, []), (.goto 4, 89, 0, 0, [])]
def blX9_loadZoned_88 : List aIn := [(.iconst 0, 0, 0, 0, [])]
def blX9_loadZoned_89 : List aIn := [(.istore 7, 7, 0, 0, []), (.iload 6, 6, 0, 0, []), (.iconst 4, 4, 0, 0, []), (.ishr, 0, 0, 0, []), (.invokestatic 112, 1, 0, 0, [])]
def blX9_loadZoned_98 : List aIn := [(.istore 8, 8, 0, 0, []), (.iload_n 3, 3, 0, 0, []), (.iload 7, 7, 0, 0, []), (.ifCond .eq 16, 119, 0, 0, [])]
def blX9_loadZoned_106 : List aIn := [(.iload 8, 8, 0, 0, []), (.ifCond .eq 7, 115, 0, 0, [])]
def blX9_loadZoned_111 : List aIn := [(.iconst 1, 1, 0, 0, []), (.goto 55, 167, 0, 0, [])]
def blX9_loadZoned_115 : List aIn := [(.iconst 0, 0, 0, 0, []), (.goto 51, 167, 0, 0, [])]
def blX9_loadZoned_119 : List aIn := [(.iload_n 2, 2, 0, 0, []), (.bipush 11, 11, 0, 0, []), (.if_icmp .ne 31, 153, 0, 0, [])]
def blX9_loadZoned_125 : List aIn := [(.iload 6, 6, 0, 0, []), (.iconst 4, 4, 0, 0, []), (.ishr, 0, 0, 0, []), (.iconst 3, 3, 0, 0, []), (.if_icmp .ne 19, 149, 0, 0, [])]
def blX9_loadZoned_133 : List aIn := [(.aload_n 0, 0, 0, 0, []), (.iload_n 1, 1, 0, 0, []), (.iconst 2, 2, 0, 0, []), (.iload 5, 5, 0, 0, []), (.imul, 0, 0, 0, []), (.invokevirtual 109, 3, 0, 0, [])]
def blX9_loadZoned_142 : List aIn := [(.ifCond .ne 7, 149, 0, 0, [])]
def blX9_loadZoned_145 : List aIn := [(.iconst 1, 1, 0, 0, []), (.goto 21, 167, 0, 0, [])]
def blX9_loadZoned_149 : List aIn := [(.iconst 0, 0, 0, 0, []), (.goto 17, 167, 0, 0, [])]
def blX9_loadZoned_153 : List aIn := [(.iload 6, 6, 0, 0, []), (.iconst 4, 4, 0, 0, []), (.ishr, 0, 0, 0, []), (.bipush 15, 15, 0, 0, []), (.if_icmp .ne 7, 166, 0, 0, [])]
def blX9_loadZoned_162 : List aIn := [(.iconst 1, 1, 0, 0, []), (.goto 4, 167, 0, 0, [])]
def blX9_loadZoned_166 : List aIn := [(.iconst 0, 0, 0, 0, [])]
def blX9_loadZoned_167 : List aIn := [(.iand, 0, 0, 0, []), (.aload_n 0, 0, 0, 0, []), (.iload 6, 6, 0, 0, []), (.bipush 15, 15, 0, 0, []), (.iand, 0, 0, 0, []), (.invokevirtual 115, 2, 0, 0, [])]
def blX9_loadZoned_177 : List aIn := [(.iand, 0, 0, 0, []), (.istore_n 3, 3, 0, 0, []), (.aload_n 0, 0, 0, 0, []), (.iload 7, 7, 0, 0, []), (.ifCond .eq 8, 190, 0, 0, [])]
def blX9_loadZoned_185 : List aIn := [(.iload 8, 8, 0, 0, []), (.goto 7, 194, 0, 0, [])]
def blX9_loadZoned_190 : List aIn := [(.aload_n 0, 0, 0, 0, []), (.getfield 88, 10, 9, 0, [])]
def blX9_loadZoned_194 : List aIn := [(.putfield 88, 10, 9, 0, []), (.iinc 5 1, 5, 0, 0, []), (.goto (-187), 13, 0, 0, [])]
def blX9_loadZoned_203 : List aIn := [(.iload_n 2, 2, 0, 0, []), (.iconst 2, 2, 0, 0, []), (.if_icmp .eq 8, 213, 0, 0, [])]
def blX9_loadZoned_208 : List aIn := [(.iload_n 2, 2, 0, 0, []), (.iconst 3, 3, 0, 0, []), (.if_icmp .ne 61, 271, 0, 0, [])]
def blX9_loadZoned_213 : List aIn := [(.aload_n 0, 0, 0, 0, []), (.iload_n 1, 1, 0, 0, []), (.iload_n 2, 2, 0, 0, []), (.iconst 2, 2, 0, 0, []), (.if_icmp .ne 8, 225, 0, 0, [])]
def blX9_loadZoned_220 : List aIn := [(.iload 4, 4, 0, 0, []), (.goto 4, 226, 0, 0, [])]
def blX9_loadZoned_225 : List aIn := [(.iconst 0, 0, 0, 0, [])]
def blX9_loadZoned_226 : List aIn := [(.invokevirtual 109, 3, 0, 0, [])]
def blX9_loadZoned_229 : List aIn := [(.istore 5, 5, 0, 0, []), (.iload_n 3, 3, 0, 0, []), (.ifCond .eq 21, 253, 0, 0, [])]
def blX9_loadZoned_235 : List aIn := [(.iload 5, 5, 0, 0, []), (.bipush 78, 78, 0, 0, []), (.if_icmp .eq 10, 249, 0, 0, [])]
def blX9_loadZoned_242 : List aIn := [(.iload 5, 5, 0, 0, []), (.bipush 96, 96, 0, 0, []), (.if_icmp .ne 7, 253, 0, 0, [])]
def blX9_loadZoned_249 : List aIn := [(.iconst 1, 1, 0, 0, []), (.goto 4, 254, 0, 0, [])]
def blX9_loadZoned_253 : List aIn := [(.iconst 0, 0, 0, 0, [])]
def blX9_loadZoned_254 : List aIn := [(.istore_n 3, 3, 0, 0, []), (.aload_n 0, 0, 0, 0, []), (.iload 5, 5, 0, 0, []), (.bipush 96, 96, 0, 0, []), (.if_icmp .ne 7, 267, 0, 0, [])]
def blX9_loadZoned_263 : List aIn := [(.iconst (-1), 1, 1, 0, []), (.goto 4, 268, 0, 0, [])]
def blX9_loadZoned_267 : List aIn := [(.iconst 1, 1, 0, 0, [])]
def blX9_loadZoned_268 : List aIn := [(.putfield 88, 10, 9, 0, [])]
def blX9_loadZoned_271 : List aIn := [(.iload_n 2, 2, 0, 0, []), (.bipush 11, 11, 0, 0, []), (.if_icmp .ne 68, 342, 0, 0, [])]
def blX9_loadZoned_277 : List aIn := [(.aload_n 0, 0, 0, 0, []), (.iload_n 1, 1, 0, 0, []), (.iconst 2, 2, 0, 0, []), (.iload 4, 4, 0, 0, []), (.imul, 0, 0, 0, []), (.iconst 1, 1, 0, 0, []), (.iadd, 0, 0, 0, []), (.invokevirtual 109, 3, 0, 0, [])]
def blX9_loadZoned_288 : List aIn := [(.istore 5, 5, 0, 0, []), (.iload_n 3, 3, 0, 0, []), (.ifCond .eq 33, 324, 0, 0, [])]
def blX9_loadZoned_294 : List aIn := [(.aload_n 0, 0, 0, 0, []), (.iload_n 1, 1, 0, 0, []), (.iconst 2, 2, 0, 0, []), (.iload 4, 4, 0, 0, []), (.imul, 0, 0, 0, []), (.invokevirtual 109, 3, 0, 0, [])]
def blX9_loadZoned_303 : List aIn := [(.ifCond .ne 21, 324, 0, 0, [])]
def blX9_loadZoned_306 : List aIn := [(.iload 5, 5, 0, 0, []), (.bipush 43, 43, 0, 0, []), (.if_icmp .eq 10, 320, 0, 0, [])]
def blX9_loadZoned_313 : List aIn := [(.iload 5, 5, 0, 0, []), (.bipush 45, 45, 0, 0, []), (.if_icmp .ne 7, 324, 0, 0, [])]
def blX9_loadZoned_320 : List aIn := [(.iconst 1, 1, 0, 0, []), (.goto 4, 325, 0, 0, [])]
def blX9_loadZoned_324 : List aIn := [(.iconst 0, 0, 0, 0, [])]
def blX9_loadZoned_325 : List aIn := [(.istore_n 3, 3, 0, 0, []), (.aload_n 0, 0, 0, 0, []), (.iload 5, 5, 0, 0, []), (.bipush 45, 45, 0, 0, []), (.if_icmp .ne 7, 338, 0, 0, [])]
def blX9_loadZoned_334 : List aIn := [(.iconst (-1), 1, 1, 0, []), (.goto 4, 339, 0, 0, [])]
def blX9_loadZoned_338 : List aIn := [(.iconst 1, 1, 0, 0, [])]
def blX9_loadZoned_339 : List aIn := [(.putfield 88, 10, 9, 0, [])]
def blX9_loadZoned_342 : List aIn := [(.iload_n 3, 3, 0, 0, []), (.ireturn, 0, 0, 0, [])]
def bkX9_loadZoned : List (Nat × List aIn) := [(0, blX9_loadZoned_0), (13, blX9_loadZoned_13), (20, blX9_loadZoned_20), (26, blX9_loadZoned_26), (37, blX9_loadZoned_37), (40, blX9_loadZoned_40), (47, blX9_loadZoned_47), (54, blX9_loadZoned_54), (56, blX9_loadZoned_56), (59, blX9_loadZoned_59), (65, blX9_loadZoned_65), (74, blX9_loadZoned_74), (79, blX9_loadZoned_79), (84, blX9_loadZoned_84), (88, blX9_loadZoned_88), (89, blX9_loadZoned_89), (98, blX9_loadZoned_98), (106, blX9_loadZoned_106), (111, blX9_loadZoned_111), (115, blX9_loadZoned_115), (119, blX9_loadZoned_119), (125, blX9_loadZoned_125), (133, blX9_loadZoned_133), (142, blX9_loadZoned_142), (145, blX9_loadZoned_145), (149, blX9_loadZoned_149), (153, blX9_loadZoned_153), (162, blX9_loadZoned_162), (166, blX9_loadZoned_166), (167, blX9_loadZoned_167), (177, blX9_loadZoned_177), (185, blX9_loadZoned_185), (190, blX9_loadZoned_190), (194, blX9_loadZoned_194), (203, blX9_loadZoned_203), (208, blX9_loadZoned_208), (213, blX9_loadZoned_213), (220, blX9_loadZoned_220), (225, blX9_loadZoned_225), (226, blX9_loadZoned_226), (229, blX9_loadZoned_229), (235, blX9_loadZoned_235), (242, blX9_loadZoned_242), (249, blX9_loadZoned_249), (253, blX9_loadZoned_253), (254, blX9_loadZoned_254), (263, blX9_loadZoned_263), (267, blX9_loadZoned_267), (268, blX9_loadZoned_268), (271, blX9_loadZoned_271), (277, blX9_loadZoned_277), (288, blX9_loadZoned_288), (294, blX9_loadZoned_294), (303, blX9_loadZoned_303), (306, blX9_loadZoned_306), (313, blX9_loadZoned_313), (320, blX9_loadZoned_320), (324, blX9_loadZoned_324), (325, blX9_loadZoned_325), (334, blX9_loadZoned_334), (338, blX9_loadZoned_338), (339, blX9_loadZoned_339), (342, blX9_loadZoned_342)]
theorem bqX9_loadZoned_0 : aLook bkX9_loadZoned 0 = some blX9_loadZoned_0 := rfl
theorem bqX9_loadZoned_13 : aLook bkX9_loadZoned 13 = some blX9_loadZoned_13 := rfl
theorem bqX9_loadZoned_20 : aLook bkX9_loadZoned 20 = some blX9_loadZoned_20 := rfl
theorem bqX9_loadZoned_26 : aLook bkX9_loadZoned 26 = some blX9_loadZoned_26 := rfl
theorem bqX9_loadZoned_37 : aLook bkX9_loadZoned 37 = some blX9_loadZoned_37 := rfl
theorem bqX9_loadZoned_40 : aLook bkX9_loadZoned 40 = some blX9_loadZoned_40 := rfl
theorem bqX9_loadZoned_47 : aLook bkX9_loadZoned 47 = some blX9_loadZoned_47 := rfl
theorem bqX9_loadZoned_54 : aLook bkX9_loadZoned 54 = some blX9_loadZoned_54 := rfl
theorem bqX9_loadZoned_56 : aLook bkX9_loadZoned 56 = some blX9_loadZoned_56 := rfl
theorem bqX9_loadZoned_59 : aLook bkX9_loadZoned 59 = some blX9_loadZoned_59 := rfl
theorem bqX9_loadZoned_65 : aLook bkX9_loadZoned 65 = some blX9_loadZoned_65 := rfl
theorem bqX9_loadZoned_74 : aLook bkX9_loadZoned 74 = some blX9_loadZoned_74 := rfl
theorem bqX9_loadZoned_79 : aLook bkX9_loadZoned 79 = some blX9_loadZoned_79 := rfl
theorem bqX9_loadZoned_84 : aLook bkX9_loadZoned 84 = some blX9_loadZoned_84 := rfl
theorem bqX9_loadZoned_88 : aLook bkX9_loadZoned 88 = some blX9_loadZoned_88 := rfl
theorem bqX9_loadZoned_89 : aLook bkX9_loadZoned 89 = some blX9_loadZoned_89 := rfl
theorem bqX9_loadZoned_98 : aLook bkX9_loadZoned 98 = some blX9_loadZoned_98 := rfl
theorem bqX9_loadZoned_106 : aLook bkX9_loadZoned 106 = some blX9_loadZoned_106 := rfl
theorem bqX9_loadZoned_111 : aLook bkX9_loadZoned 111 = some blX9_loadZoned_111 := rfl
theorem bqX9_loadZoned_115 : aLook bkX9_loadZoned 115 = some blX9_loadZoned_115 := rfl
theorem bqX9_loadZoned_119 : aLook bkX9_loadZoned 119 = some blX9_loadZoned_119 := rfl
theorem bqX9_loadZoned_125 : aLook bkX9_loadZoned 125 = some blX9_loadZoned_125 := rfl
theorem bqX9_loadZoned_133 : aLook bkX9_loadZoned 133 = some blX9_loadZoned_133 := rfl
theorem bqX9_loadZoned_142 : aLook bkX9_loadZoned 142 = some blX9_loadZoned_142 := rfl
theorem bqX9_loadZoned_145 : aLook bkX9_loadZoned 145 = some blX9_loadZoned_145 := rfl
theorem bqX9_loadZoned_149 : aLook bkX9_loadZoned 149 = some blX9_loadZoned_149 := rfl
theorem bqX9_loadZoned_153 : aLook bkX9_loadZoned 153 = some blX9_loadZoned_153 := rfl
theorem bqX9_loadZoned_162 : aLook bkX9_loadZoned 162 = some blX9_loadZoned_162 := rfl
theorem bqX9_loadZoned_166 : aLook bkX9_loadZoned 166 = some blX9_loadZoned_166 := rfl
theorem bqX9_loadZoned_167 : aLook bkX9_loadZoned 167 = some blX9_loadZoned_167 := rfl
theorem bqX9_loadZoned_177 : aLook bkX9_loadZoned 177 = some blX9_loadZoned_177 := rfl
theorem bqX9_loadZoned_185 : aLook bkX9_loadZoned 185 = some blX9_loadZoned_185 := rfl
theorem bqX9_loadZoned_190 : aLook bkX9_loadZoned 190 = some blX9_loadZoned_190 := rfl
theorem bqX9_loadZoned_194 : aLook bkX9_loadZoned 194 = some blX9_loadZoned_194 := rfl
theorem bqX9_loadZoned_203 : aLook bkX9_loadZoned 203 = some blX9_loadZoned_203 := rfl
theorem bqX9_loadZoned_208 : aLook bkX9_loadZoned 208 = some blX9_loadZoned_208 := rfl
theorem bqX9_loadZoned_213 : aLook bkX9_loadZoned 213 = some blX9_loadZoned_213 := rfl
theorem bqX9_loadZoned_220 : aLook bkX9_loadZoned 220 = some blX9_loadZoned_220 := rfl
theorem bqX9_loadZoned_225 : aLook bkX9_loadZoned 225 = some blX9_loadZoned_225 := rfl
theorem bqX9_loadZoned_226 : aLook bkX9_loadZoned 226 = some blX9_loadZoned_226 := rfl
theorem bqX9_loadZoned_229 : aLook bkX9_loadZoned 229 = some blX9_loadZoned_229 := rfl
theorem bqX9_loadZoned_235 : aLook bkX9_loadZoned 235 = some blX9_loadZoned_235 := rfl
theorem bqX9_loadZoned_242 : aLook bkX9_loadZoned 242 = some blX9_loadZoned_242 := rfl
theorem bqX9_loadZoned_249 : aLook bkX9_loadZoned 249 = some blX9_loadZoned_249 := rfl
theorem bqX9_loadZoned_253 : aLook bkX9_loadZoned 253 = some blX9_loadZoned_253 := rfl
theorem bqX9_loadZoned_254 : aLook bkX9_loadZoned 254 = some blX9_loadZoned_254 := rfl
theorem bqX9_loadZoned_263 : aLook bkX9_loadZoned 263 = some blX9_loadZoned_263 := rfl
theorem bqX9_loadZoned_267 : aLook bkX9_loadZoned 267 = some blX9_loadZoned_267 := rfl
theorem bqX9_loadZoned_268 : aLook bkX9_loadZoned 268 = some blX9_loadZoned_268 := rfl
theorem bqX9_loadZoned_271 : aLook bkX9_loadZoned 271 = some blX9_loadZoned_271 := rfl
theorem bqX9_loadZoned_277 : aLook bkX9_loadZoned 277 = some blX9_loadZoned_277 := rfl
theorem bqX9_loadZoned_288 : aLook bkX9_loadZoned 288 = some blX9_loadZoned_288 := rfl
theorem bqX9_loadZoned_294 : aLook bkX9_loadZoned 294 = some blX9_loadZoned_294 := rfl
theorem bqX9_loadZoned_303 : aLook bkX9_loadZoned 303 = some blX9_loadZoned_303 := rfl
theorem bqX9_loadZoned_306 : aLook bkX9_loadZoned 306 = some blX9_loadZoned_306 := rfl
theorem bqX9_loadZoned_313 : aLook bkX9_loadZoned 313 = some blX9_loadZoned_313 := rfl
theorem bqX9_loadZoned_320 : aLook bkX9_loadZoned 320 = some blX9_loadZoned_320 := rfl
theorem bqX9_loadZoned_324 : aLook bkX9_loadZoned 324 = some blX9_loadZoned_324 := rfl
theorem bqX9_loadZoned_325 : aLook bkX9_loadZoned 325 = some blX9_loadZoned_325 := rfl
theorem bqX9_loadZoned_334 : aLook bkX9_loadZoned 334 = some blX9_loadZoned_334 := rfl
theorem bqX9_loadZoned_338 : aLook bkX9_loadZoned 338 = some blX9_loadZoned_338 := rfl
theorem bqX9_loadZoned_339 : aLook bkX9_loadZoned 339 = some blX9_loadZoned_339 := rfl
theorem bqX9_loadZoned_342 : aLook bkX9_loadZoned 342 = some blX9_loadZoned_342 := rfl
theorem boX9_loadZoned : ∀ pc is, aLook bkX9_loadZoned pc = some is → aBlk RX9 cX9_loadZoned 9 false pc is := aBks_ok (lk := lkX9) lkX9_ok (by decide +kernel)
def blX9_loadPacked_0 : List aIn := [(.iconst 1, 1, 0, 0, []), (.istore_n 2, 2, 0, 0, []), (.iconst 2, 2, 0, 0, []), (.aload_n 0, 0, 0, 0, []), (.getfield 23, 10, 5, 2, []), (.iload_n 1, 1, 0, 0, []), (.iaload, 0, 0, 0, []), (.imul, 0, 0, 0, []), (.istore_n 3, 3, 0, 0, []), (.iconst 0, 0, 0, 0, []), (.istore 4, 4, 0, 0, [])]
def blX9_loadPacked_14 : List aIn := [(.iload 4, 4, 0, 0, []), (.iload_n 3, 3, 0, 0, []), (.if_icmp .ge 151, 168, 0, 0, [])]
def blX9_loadPacked_20 : List aIn := [(.aload_n 0, 0, 0, 0, []), (.iload_n 1, 1, 0, 0, []), (.iload 4, 4, 0, 0, []), (.iconst 2, 2, 0, 0, []), (.idiv, 0, 0, 0, []), (.invokevirtual 109, 3, 0, 0, [])]
def blX9_loadPacked_29 : List aIn := [(.iload 4, 4, 0, 0, []), (.iconst 2, 2, 0, 0, []), (.irem, 0, 0, 0, []), (.ifCond .ne 7, 40, 0, 0, [])]
def blX9_loadPacked_36 : List aIn := [(.iconst 4, 4, 0, 0, []), (.goto 4, 41, 0, 0, [])]
def blX9_loadPacked_40 : List aIn := [(.iconst 0, 0, 0, 0, [])]
def blX9_loadPacked_41 : List aIn := [(.ishr, 0, 0, 0, []), (.bipush 15, 15, 0, 0, []), (.iand, 0, 0, 0, []), (.istore 5, 5, 0, 0, []), (.iload 4, 4, 0, 0, []), (.iload_n 3, 3, 0, 0, []), (.iconst 1, 1, 0, 0, []), (.isub, 0, 0, 0, []), (.if_icmp .ne 71, 123, 0, 0, [])]
def blX9_loadPacked_55 : List aIn := [(.iload_n 2, 2, 0, 0, []), (.ifCond .eq 35, 91, 0, 0, [])]
def blX9_loadPacked_59 : List aIn := [(.aload_n 0, 0, 0, 0, []), (.getfield 13, 10, 2, 2, []), (.iload_n 1, 1, 0, 0, []), (.iaload, 0, 0, 0, []), (.iconst 5, 5, 0, 0, []), (.if_icmp .ne 14, 80, 0, 0, [])]
def blX9_loadPacked_69 : List aIn := [(.iload 5, 5, 0, 0, []), (.invokestatic 112, 1, 0, 0, [])]
def blX9_loadPacked_74 : List aIn := [(.ifCond .eq 17, 91, 0, 0, [])]
def blX9_loadPacked_77 : List aIn := [(.goto 10, 87, 0, 0, [])]
def blX9_loadPacked_80 : List aIn := [(.iload 5, 5, 0, 0, []), (.bipush 15, 15, 0, 0, []), (.if_icmp .ne 7, 91, 0, 0, [])]
def blX9_loadPacked_87 : List aIn := [(.iconst 1, 1, 0, 0, []), (.goto 4, 92, 0, 0, [])]
def blX9_loadPacked_91 : List aIn := [(.iconst 0, 0, 0, 0, [])]
def blX9_loadPacked_92 : List aIn := [(.istore_n 2, 2, 0, 0, []), (.aload_n 0, 0, 0, 0, []), (.aload_n 0, 0, 0, 0, []), (.getfield 13, 10, 2, 2, []), (.iload_n 1, 1, 0, 0, []), (.iaload, 0, 0, 0, []), (.iconst 5, 5, 0, 0, []), (.if_icmp .ne 15, 116, 0, 0, [])]
def blX9_loadPacked_104 : List aIn := [(.iload 5, 5, 0, 0, []), (.invokestatic 112, 1, 0, 0, [])]
def blX9_loadPacked_109 : List aIn := [(.ifCond .ge 7, 116, 0, 0, [])]
def blX9_loadPacked_112 : List aIn := [(.iconst (-1), 1, 1, 0, []), (.goto 4, 117, 0, 0, [])]
def blX9_loadPacked_116 : List aIn := [(.iconst 1, 1, 0, 0, [])]
def blX9_loadPacked_117 : List aIn := [(.putfield 88, 10, 9, 0, []), (.goto 42, 162, 0, 0, [])]
def blX9_loadPacked_123 : List aIn := [(.iload 4, 4, 0, 0, []), (.ifCond .ne 28, 153, 0, 0, [])]
def blX9_loadPacked_128 : List aIn := [(.aload_n 0, 0, 0, 0, []), (.getfield 17, 10, 3, 2, []), (.iload_n 1, 1, 0, 0, []), (.iaload, 0, 0, 0, []), (.iconst 2, 2, 0, 0, []), (.irem, 0, 0, 0, []), (.ifCond .ne 17, 153, 0, 0, [])]
def blX9_loadPacked_139 : List aIn := [(.iload 5, 5, 0, 0, []), (.ifCond .ne 7, 148, 0, 0, [])]
def blX9_loadPacked_144 : List aIn := [(.iconst 1, 1, 0, 0, []), (.goto 4, 149, 0, 0, [])]
def blX9_loadPacked_148 : List aIn := [(.iconst 0, 0, 0, 0, [])]
def blX9_loadPacked_149 : List aIn := [(.istore_n 2, 2, 0, 0, []), (.goto 12, 162, 0, 0, [])]
def blX9_loadPacked_153 : List aIn := [(.iload_n 2, 2, 0, 0, []), (.aload_n 0, 0, 0, 0, []), (.iload 5, 5, 0, 0, []), (.invokevirtual 115, 2, 0, 0, [])]
def blX9_loadPacked_160 : List aIn := [(.iand, 0, 0, 0, []), (.istore_n 2, 2, 0, 0, [])]
def blX9_loadPacked_162 : List aIn := [(.iinc 4 1, 4, 0, 0, []), (.goto (-151), 14, 0, 0, [])]
def blX9_loadPacked_168 : List aIn := [(.iload_n 2, 2, 0, 0, []), (.ireturn, 0, 0, 0, [])]
def bkX9_loadPacked : List (Nat × List aIn) := [(0, blX9_loadPacked_0), (14, blX9_loadPacked_14), (20, blX9_loadPacked_20), (29, blX9_loadPacked_29), (36, blX9_loadPacked_36), (40, blX9_loadPacked_40), (41, blX9_loadPacked_41), (55, blX9_loadPacked_55), (59, blX9_loadPacked_59), (69, blX9_loadPacked_69), (74, blX9_loadPacked_74), (77, blX9_loadPacked_77), (80, blX9_loadPacked_80), (87, blX9_loadPacked_87), (91, blX9_loadPacked_91), (92, blX9_loadPacked_92), (104, blX9_loadPacked_104), (109, blX9_loadPacked_109), (112, blX9_loadPacked_112), (116, blX9_loadPacked_116), (117, blX9_loadPacked_117), (123, blX9_loadPacked_123), (128, blX9_loadPacked_128), (139, blX9_loadPacked_139), (144, blX9_loadPacked_144), (148, blX9_loadPacked_148), (149, blX9_loadPacked_149), (153, blX9_loadPacked_153), (160, blX9_loadPacked_160), (162, blX9_loadPacked_162), (168, blX9_loadPacked_168)]
theorem bqX9_loadPacked_0 : aLook bkX9_loadPacked 0 = some blX9_loadPacked_0 := rfl
theorem bqX9_loadPacked_14 : aLook bkX9_loadPacked 14 = some blX9_loadPacked_14 := rfl
theorem bqX9_loadPacked_20 : aLook bkX9_loadPacked 20 = some blX9_loadPacked_20 := rfl
theorem bqX9_loadPacked_29 : aLook bkX9_loadPacked 29 = some blX9_loadPacked_29 := rfl
theorem bqX9_loadPacked_36 : aLook bkX9_loadPacked 36 = some blX9_loadPacked_36 := rfl
theorem bqX9_loadPacked_40 : aLook bkX9_loadPacked 40 = some blX9_loadPacked_40 := rfl
theorem bqX9_loadPacked_41 : aLook bkX9_loadPacked 41 = some blX9_loadPacked_41 := rfl
theorem bqX9_loadPacked_55 : aLook bkX9_loadPacked 55 = some blX9_loadPacked_55 := rfl
theorem bqX9_loadPacked_59 : aLook bkX9_loadPacked 59 = some blX9_loadPacked_59 := rfl
theorem bqX9_loadPacked_69 : aLook bkX9_loadPacked 69 = some blX9_loadPacked_69 := rfl
theorem bqX9_loadPacked_74 : aLook bkX9_loadPacked 74 = some blX9_loadPacked_74 := rfl
theorem bqX9_loadPacked_77 : aLook bkX9_loadPacked 77 = some blX9_loadPacked_77 := rfl
theorem bqX9_loadPacked_80 : aLook bkX9_loadPacked 80 = some blX9_loadPacked_80 := rfl
theorem bqX9_loadPacked_87 : aLook bkX9_loadPacked 87 = some blX9_loadPacked_87 := rfl
theorem bqX9_loadPacked_91 : aLook bkX9_loadPacked 91 = some blX9_loadPacked_91 := rfl
theorem bqX9_loadPacked_92 : aLook bkX9_loadPacked 92 = some blX9_loadPacked_92 := rfl
theorem bqX9_loadPacked_104 : aLook bkX9_loadPacked 104 = some blX9_loadPacked_104 := rfl
theorem bqX9_loadPacked_109 : aLook bkX9_loadPacked 109 = some blX9_loadPacked_109 := rfl
theorem bqX9_loadPacked_112 : aLook bkX9_loadPacked 112 = some blX9_loadPacked_112 := rfl
theorem bqX9_loadPacked_116 : aLook bkX9_loadPacked 116 = some blX9_loadPacked_116 := rfl
theorem bqX9_loadPacked_117 : aLook bkX9_loadPacked 117 = some blX9_loadPacked_117 := rfl
theorem bqX9_loadPacked_123 : aLook bkX9_loadPacked 123 = some blX9_loadPacked_123 := rfl
theorem bqX9_loadPacked_128 : aLook bkX9_loadPacked 128 = some blX9_loadPacked_128 := rfl
theorem bqX9_loadPacked_139 : aLook bkX9_loadPacked 139 = some blX9_loadPacked_139 := rfl
theorem bqX9_loadPacked_144 : aLook bkX9_loadPacked 144 = some blX9_loadPacked_144 := rfl
theorem bqX9_loadPacked_148 : aLook bkX9_loadPacked 148 = some blX9_loadPacked_148 := rfl
theorem bqX9_loadPacked_149 : aLook bkX9_loadPacked 149 = some blX9_loadPacked_149 := rfl
theorem bqX9_loadPacked_153 : aLook bkX9_loadPacked 153 = some blX9_loadPacked_153 := rfl
theorem bqX9_loadPacked_160 : aLook bkX9_loadPacked 160 = some blX9_loadPacked_160 := rfl
theorem bqX9_loadPacked_162 : aLook bkX9_loadPacked 162 = some blX9_loadPacked_162 := rfl
theorem bqX9_loadPacked_168 : aLook bkX9_loadPacked 168 = some blX9_loadPacked_168 := rfl
theorem boX9_loadPacked : ∀ pc is, aLook bkX9_loadPacked pc = some is → aBlk RX9 cX9_loadPacked 6 false pc is := aBks_ok (lk := lkX9) lkX9_ok (by decide +kernel)
def blX9_loadBinary_0 : List aIn := [(.aload_n 0, 0, 0, 0, []), (.iload_n 1, 1, 0, 0, []), (.iconst 0, 0, 0, 0, []), (.invokevirtual 109, 3, 0, 0, [])]
def blX9_loadBinary_6 : List aIn := [(.bipush 127, 127, 0, 0, []), (.if_icmp .le 7, 15, 0, 0, [])]
def blX9_loadBinary_11 : List aIn := [(.iconst 1, 1, 0, 0, []), (.goto 4, 16, 0, 0, [])]
def blX9_loadBinary_15 : List aIn := [(.iconst 0, 0, 0, 0, [])]
def blX9_loadBinary_16 : List aIn := [(.istore_n 2, 2, 0, 0, []), (.aload_n 0, 0, 0, 0, []), (.iload_n 2, 2, 0, 0, []), (.ifCond .eq 7, 26, 0, 0, [])]
def blX9_loadBinary_22 : List aIn := [(.iconst (-1), 1, 1, 0, []), (.goto 4, 27, 0, 0, [])]
def blX9_loadBinary_26 : List aIn := [(.iconst 1, 1, 0, 0, [])]
def blX9_loadBinary_27 : List aIn := [(.putfield 88, 10, 9, 0, []), (.iconst 0, 0, 0, 0, []), (.istore_n 3, 3, 0, 0, [])]
def blX9_loadBinary_32 : List aIn := [(.iload_n 3, 3, 0, 0, []), (.aload_n 0, 0, 0, 0, []), (.getfield 23, 10, 5, 2, []), (.iload_n 1, 1, 0, 0, []), (.iaload, 0, 0, 0, []), (.if_icmp .ge 45, 84, 0, 0, [])]
def blX9_loadBinary_42 : List aIn := [(.aload_n 0, 0, 0, 0, []), (.iconst 0, 0, 0, 0, []), (.sipush 256, 256, 0, 0, []), (.invokevirtual 43, 3, 0, 0, [])]
def blX9_loadBinary_50 : List aIn := [(.aload_n 0, 0, 0, 0, []), (.iconst 0, 0, 0, 0, []), (.iload_n 2, 2, 0, 0, []), (.ifCond .eq 16, 69, 0, 0, [])]
def blX9_loadBinary_56 : List aIn := [(.sipush 255, 255, 0, 0, []), (.aload_n 0, 0, 0, 0, []), (.iload_n 1, 1, 0, 0, []), (.iload_n 3, 3, 0, 0, []), (.invokevirtual 109, 3, 0, 0, [])]
def blX9_loadBinary_65 : List aIn := [(.isub, 0, 0, 0, []), (.goto 9, 75, 0, 0, [])]
def blX9_loadBinary_69 : List aIn := [(.aload_n 0, 0, 0, 0, []), (.iload_n 1, 1, 0, 0, []), (.iload_n 3, 3, 0, 0, []), (.invokevirtual 109, 3, 0, 0, [])]
def blX9_loadBinary_75 : List aIn := [(.invokevirtual 82, 3, 0, 0, [])]
def blX9_loadBinary_78 : List aIn := [(.iinc 3 1, 3, 0, 0, []), (.goto (-49), 32, 0, 0, [])]
def blX9_loadBinary_84 : List aIn := [(.iload_n 2, 2, 0, 0, []), (.ifCond .eq 9, 94, 0, 0, [])]
def blX9_loadBinary_88 : List aIn := [(.aload_n 0, 0, 0, 0, []), (.iconst 0, 0, 0, 0, []), (.iconst 1, 1, 0, 0, []), (.invokevirtual 82, 3, 0, 0, [])]
def blX9_loadBinary_94 : List aIn := [(.aload_n 0, 0, 0, 0, []), (.getfield 13, 10, 2, 2, []), (.iload_n 1, 1, 0, 0, []), (.iaload, 0, 0, 0, []), (.bipush 8, 8, 0, 0, []), (.if_icmp .ne 5, 107, 0, 0, [])]
def blX9_loadBinary_105 : List aIn := [(.iconst 1, 1, 0, 0, []), (.ireturn, 0, 0, 0, [])]
def blX9_loadBinary_107 : List aIn := [(.aload_n 0, 0, 0, 0, []), (.bipush 8, 8, 0, 0, []), (.iconst 1, 1, 0, 0, []), (.invokevirtual 85, 3, 0, 0, [])]
def blX9_loadBinary_114 : List aIn := [(.aload_n 0, 0, 0, 0, []), (.bipush 8, 8, 0, 0, []), (.aload_n 0, 0, 0, 0, []), (.getfield 17, 10, 3, 2, []), (.iload_n 1, 1, 0, 0, []), (.iaload, 0, 0, 0, []), (.invokevirtual 103, 3, 0, 0, [])]
def blX9_loadBinary_126 : List aIn := [(.aload_n 0, 0, 0, 0, []), (.iconst 0, 0, 0, 0, []), (.bipush 8, 8, 0, 0, []), (.invokevirtual 58, 3, 0, 0, [])]
def blX9_loadBinary_133 : List aIn := [(.ifCond .ge 7, 140, 0, 0, [])]
def blX9_loadBinary_136 : List aIn := [(.iconst 1, 1, 0, 0, []), (.goto 4, 141, 0, 0, [])]
def blX9_loadBinary_140 : List aIn := [(.iconst 0, 0, 0, 0, [])]
def blX9_loadBinary_141 : List aIn := [(.ireturn, 0, 0, 0, [])]
def bkX9_loadBinary : List (Nat × List aIn) := [(0, blX9_loadBinary_0), (6, blX9_loadBinary_6), (11, blX9_loadBinary_11), (15, blX9_loadBinary_15), (16, blX9_loadBinary_16), (22, blX9_loadBinary_22), (26, blX9_loadBinary_26), (27, blX9_loadBinary_27), (32, blX9_loadBinary_32), (42, blX9_loadBinary_42), (50, blX9_loadBinary_50), (56, blX9_loadBinary_56), (65, blX9_loadBinary_65), (69, blX9_loadBinary_69), (75, blX9_loadBinary_75), (78, blX9_loadBinary_78), (84, blX9_loadBinary_84), (88, blX9_loadBinary_88), (94, blX9_loadBinary_94), (105, blX9_loadBinary_105), (107, blX9_loadBinary_107), (114, blX9_loadBinary_114), (126, blX9_loadBinary_126), (133, blX9_loadBinary_133), (136, blX9_loadBinary_136), (140, blX9_loadBinary_140), (141, blX9_loadBinary_141)]
theorem bqX9_loadBinary_0 : aLook bkX9_loadBinary 0 = some blX9_loadBinary_0 := rfl
theorem bqX9_loadBinary_6 : aLook bkX9_loadBinary 6 = some blX9_loadBinary_6 := rfl
theorem bqX9_loadBinary_11 : aLook bkX9_loadBinary 11 = some blX9_loadBinary_11 := rfl
theorem bqX9_loadBinary_15 : aLook bkX9_loadBinary 15 = some blX9_loadBinary_15 := rfl
theorem bqX9_loadBinary_16 : aLook bkX9_loadBinary 16 = some blX9_loadBinary_16 := rfl
theorem bqX9_loadBinary_22 : aLook bkX9_loadBinary 22 = some blX9_loadBinary_22 := rfl
theorem bqX9_loadBinary_26 : aLook bkX9_loadBinary 26 = some blX9_loadBinary_26 := rfl
theorem bqX9_loadBinary_27 : aLook bkX9_loadBinary 27 = some blX9_loadBinary_27 := rfl
theorem bqX9_loadBinary_32 : aLook bkX9_loadBinary 32 = some blX9_loadBinary_32 := rfl
theorem bqX9_loadBinary_42 : aLook bkX9_loadBinary 42 = some blX9_loadBinary_42 := rfl
theorem bqX9_loadBinary_50 : aLook bkX9_loadBinary 50 = some blX9_loadBinary_50 := rfl
theorem bqX9_loadBinary_56 : aLook bkX9_loadBinary 56 = some blX9_loadBinary_56 := rfl
theorem bqX9_loadBinary_65 : aLook bkX9_loadBinary 65 = some blX9_loadBinary_65 := rfl
theorem bqX9_loadBinary_69 : aLook bkX9_loadBinary 69 = some blX9_loadBinary_69 := rfl
theorem bqX9_loadBinary_75 : aLook bkX9_loadBinary 75 = some blX9_loadBinary_75 := rfl
theorem bqX9_loadBinary_78 : aLook bkX9_loadBinary 78 = some blX9_loadBinary_78 := rfl
theorem bqX9_loadBinary_84 : aLook bkX9_loadBinary 84 = some blX9_loadBinary_84 := rfl
theorem bqX9_loadBinary_88 : aLook bkX9_loadBinary 88 = some blX9_loadBinary_88 := rfl
theorem bqX9_loadBinary_94 : aLook bkX9_loadBinary 94 = some blX9_loadBinary_94 := rfl
theorem bqX9_loadBinary_105 : aLook bkX9_loadBinary 105 = some blX9_loadBinary_105 := rfl
theorem bqX9_loadBinary_107 : aLook bkX9_loadBinary 107 = some blX9_loadBinary_107 := rfl
theorem bqX9_loadBinary_114 : aLook bkX9_loadBinary 114 = some blX9_loadBinary_114 := rfl
theorem bqX9_loadBinary_126 : aLook bkX9_loadBinary 126 = some blX9_loadBinary_126 := rfl
theorem bqX9_loadBinary_133 : aLook bkX9_loadBinary 133 = some blX9_loadBinary_133 := rfl
theorem bqX9_loadBinary_136 : aLook bkX9_loadBinary 136 = some blX9_loadBinary_136 := rfl
theorem bqX9_loadBinary_140 : aLook bkX9_loadBinary 140 = some blX9_loadBinary_140 := rfl
theorem bqX9_loadBinary_141 : aLook bkX9_loadBinary 141 = some blX9_loadBinary_141 := rfl
theorem boX9_loadBinary : ∀ pc is, aLook bkX9_loadBinary pc = some is → aBlk RX9 cX9_loadBinary 4 false pc is := aBks_ok (lk := lkX9) lkX9_ok (by decide +kernel)
def blX9_loadFloat_0 : List aIn := [(.aload_n 0, 0, 0, 0, []), (.getfield 13, 10, 2, 2, []), (.iload_n 1, 1, 0, 0, []), (.iaload, 0, 0, 0, []), (.bipush 10, 10, 0, 0, []), (.if_icmp .ne 7, 15, 0, 0, [])]
def blX9_loadFloat_11 : List aIn := [(.iconst 1, 1, 0, 0, []), (.goto 4, 16, 0, 0, [])]
def blX9_loadFloat_15 : List aIn := [(.iconst 0, 0, 0, 0, [])]
def blX9_loadFloat_16 : List aIn := [(.istore_n 2, 2, 0, 0, []), (.iload_n 2, 2, 0, 0, []), (.ifCond .eq 26, 44, 0, 0, [])]
def blX9_loadFloat_21 : List aIn := [(.aload_n 0, 0, 0, 0, []), (.iload_n 1, 1, 0, 0, []), (.iconst 0, 0, 0, 0, []), (.invokevirtual 109, 3, 0, 0, [])]
def blX9_loadFloat_27 : List aIn := [(.bipush 127, 127, 0, 0, []), (.iand, 0, 0, 0, []), (.iconst 4, 4, 0, 0, []), (.ishl, 0, 0, 0, []), (.aload_n 0, 0, 0, 0, []), (.iload_n 1, 1, 0, 0, []), (.iconst 1, 1, 0, 0, []), (.invokevirtual 109, 3, 0, 0, [])]
def blX9_loadFloat_38 : List aIn := [(.iconst 4, 4, 0, 0, []), (.ishr, 0, 0, 0, []), (.ior, 0, 0, 0, []), (.goto 24, 65, 0, 0, [])]
def blX9_loadFloat_44 : List aIn := [(.aload_n 0, 0, 0, 0, []), (.iload_n 1, 1, 0, 0, []), (.iconst 0, 0, 0, 0, []), (.invokevirtual 109, 3, 0, 0, [])]
def blX9_loadFloat_50 : List aIn := [(.bipush 127, 127, 0, 0, []), (.iand, 0, 0, 0, []), (.iconst 1, 1, 0, 0, []), (.ishl, 0, 0, 0, []), (.aload_n 0, 0, 0, 0, []), (.iload_n 1, 1, 0, 0, []), (.iconst 1, 1, 0, 0, []), (.invokevirtual 109, 3, 0, 0, [])]
def blX9_loadFloat_61 : List aIn := [(.bipush 7, 7, 0, 0, []), (.ishr, 0, 0, 0, []), (.ior, 0, 0, 0, [])]
def blX9_loadFloat_65 : List aIn := [(.istore_n 3, 3, 0, 0, []), (.iload_n 2, 2, 0, 0, []), (.ifCond .eq 15, 82, 0, 0, [])]
def blX9_loadFloat_70 : List aIn := [(.aload_n 0, 0, 0, 0, []), (.iload_n 1, 1, 0, 0, []), (.iconst 1, 1, 0, 0, []), (.invokevirtual 109, 3, 0, 0, [])]
def blX9_loadFloat_76 : List aIn := [(.bipush 15, 15, 0, 0, []), (.iand, 0, 0, 0, []), (.goto 12, 91, 0, 0, [])]
def blX9_loadFloat_82 : List aIn := [(.aload_n 0, 0, 0, 0, []), (.iload_n 1, 1, 0, 0, []), (.iconst 1, 1, 0, 0, []), (.invokevirtual 109, 3, 0, 0, [])]
def blX9_loadFloat_88 : List aIn := [(.bipush 127, 127, 0, 0, []), (.iand, 0, 0, 0, [])]
def blX9_loadFloat_91 : List aIn := [(.istore 4, 4, 0, 0, []), (.iload_n 2, 2, 0, 0, []), (.ifCond .eq 9, 103, 0, 0, [])]
def blX9_loadFloat_97 : List aIn := [(.sipush 2047, 2047, 0, 0, []), (.goto 6, 106, 0, 0, [])]
def blX9_loadFloat_103 : List aIn := [(.sipush 255, 255, 0, 0, [])]
def blX9_loadFloat_106 : List aIn := [(.istore 5, 5, 0, 0, []), (.aload_n 0, 0, 0, 0, []), (.aload_n 0, 0, 0, 0, []), (.iload_n 1, 1, 0, 0, []), (.iconst 0, 0, 0, 0, []), (.invokevirtual 109, 3, 0, 0, [])]
def blX9_loadFloat_115 : List aIn := [(.bipush 127, 127, 0, 0, []), (.if_icmp .le 7, 124, 0, 0, [])]
def blX9_loadFloat_120 : List aIn := [(.iconst (-1), 1, 1, 0, []), (.goto 4, 125, 0, 0, [])]
def blX9_loadFloat_124 : List aIn := [(.iconst 1, 1, 0, 0, [])]
def blX9_loadFloat_125 : List aIn := [(.putfield 88, 10, 9, 0, []), (.aload_n 0, 0, 0, 0, []), (.iconst 0, 0, 0, 0, []), (.iload 4, 4, 0, 0, []), (.iload_n 3, 3, 0, 0, []), (.ifCond .le 18, 151, 0, 0, [])]
def blX9_loadFloat_136 : List aIn := [(.iload_n 2, 2, 0, 0, []), (.ifCond .eq 8, 145, 0, 0, [])]
def blX9_loadFloat_140 : List aIn := [(.bipush 16, 16, 0, 0, []), (.goto 10, 152, 0, 0, [])]
def blX9_loadFloat_145 : List aIn := [(.sipush 128, 128, 0, 0, []), (.goto 4, 152, 0, 0, [])]
def blX9_loadFloat_151 : List aIn := [(.iconst 0, 0, 0, 0, [])]
def blX9_loadFloat_152 : List aIn := [(.iadd, 0, 0, 0, []), (.invokevirtual 85, 3, 0, 0, [])]
def blX9_loadFloat_156 : List aIn := [(.iconst 2, 2, 0, 0, []), (.istore 6, 6, 0, 0, [])]
def blX9_loadFloat_159 : List aIn := [(.iload 6, 6, 0, 0, []), (.aload_n 0, 0, 0, 0, []), (.getfield 23, 10, 5, 2, []), (.iload_n 1, 1, 0, 0, []), (.iaload, 0, 0, 0, []), (.if_icmp .ge 29, 196, 0, 0, [])]
def blX9_loadFloat_170 : List aIn := [(.aload_n 0, 0, 0, 0, []), (.iconst 0, 0, 0, 0, []), (.sipush 256, 256, 0, 0, []), (.invokevirtual 43, 3, 0, 0, [])]
def blX9_loadFloat_178 : List aIn := [(.aload_n 0, 0, 0, 0, []), (.iconst 0, 0, 0, 0, []), (.aload_n 0, 0, 0, 0, []), (.iload_n 1, 1, 0, 0, []), (.iload 6, 6, 0, 0, []), (.invokevirtual 109, 3, 0, 0, [])]
def blX9_loadFloat_187 : List aIn := [(.invokevirtual 82, 3, 0, 0, [])]
def blX9_loadFloat_190 : List aIn := [(.iinc 6 1, 6, 0, 0, []), (.goto (-34), 159, 0, 0, [])]
def blX9_loadFloat_196 : List aIn := [(.iload_n 3, 3, 0, 0, []), (.iload 5, 5, 0, 0, []), (.if_icmp .ne 5, 204, 0, 0, [])]
def blX9_loadFloat_202 : List aIn := [(.iconst 0, 0, 0, 0, []), (.ireturn, 0, 0, 0, [])]
def blX9_loadFloat_204 : List aIn := [(.aload_n 0, 0, 0, 0, []), (.iconst 0, 0, 0, 0, []), (.invokevirtual 106, 2, 0, 0, [])]
def blX9_loadFloat_209 : List aIn := [(.ifCond .eq 5, 214, 0, 0, [])]
def blX9_loadFloat_212 : List aIn := [(.iconst 1, 1, 0, 0, []), (.ireturn, 0, 0, 0, [])]
def blX9_loadFloat_214 : List aIn := [(.iload_n 3, 3, 0, 0, []), (.ifCond .ne 7, 222, 0, 0, [])]
def blX9_loadFloat_218 : List aIn := [(.iconst 1, 1, 0, 0, []), (.goto 4, 223, 0, 0, [])]
def blX9_loadFloat_222 : List aIn := [(.iload_n 3, 3, 0, 0, [])]
def blX9_loadFloat_223 : List aIn := [(.iload_n 2, 2, 0, 0, []), (.ifCond .eq 9, 233, 0, 0, [])]
def blX9_loadFloat_227 : List aIn := [(.sipush 1075, 1075, 0, 0, []), (.goto 6, 236, 0, 0, [])]
def blX9_loadFloat_233 : List aIn := [(.sipush 150, 150, 0, 0, [])]
def blX9_loadFloat_236 : List aIn := [(.isub, 0, 0, 0, []), (.istore 6, 6, 0, 0, []), (.iload 6, 6, 0, 0, []), (.bipush 110, 110, 0, 0, []), (.if_icmp .gt 11, 254, 0, 0, [])]
def blX9_loadFloat_246 : List aIn := [(.iload 6, 6, 0, 0, []), (.sipush (-260), 260, 1, 0, []), (.if_icmp .ge 5, 256, 0, 0, [])]
def blX9_loadFloat_254 : List aIn := [(.iconst 0, 0, 0, 0, []), (.ireturn, 0, 0, 0, [])]
def blX9_loadFloat_256 : List aIn := [(.iload 6, 6, 0, 0, []), (.ifCond .le 13, 271, 0, 0, [])]
def blX9_loadFloat_261 : List aIn := [(.aload_n 0, 0, 0, 0, []), (.iconst 0, 0, 0, 0, []), (.iload 6, 6, 0, 0, []), (.invokevirtual 118, 3, 0, 0, [])]
def blX9_loadFloat_268 : List aIn := [(.goto 12, 280, 0, 0, [])]
def blX9_loadFloat_271 : List aIn := [(.aload_n 0, 0, 0, 0, []), (.iconst 1, 1, 0, 0, []), (.iconst 0, 0, 0, 0, []), (.iload 6, 6, 0, 0, []), (.isub, 0, 0, 0, []), (.invokevirtual 118, 3, 0, 0, [])]
def blX9_loadFloat_280 : List aIn := [(.aload_n 0, 0, 0, 0, []), (.iconst 0, 0, 0, 0, []), (.iconst 1, 1, 0, 0, []), (.invokevirtual 121, 3, 0, 0, [])]
def blX9_loadFloat_286 : List aIn := [(.ireturn, 0, 0, 0, [])]
def bkX9_loadFloat : List (Nat × List aIn) := [(0, blX9_loadFloat_0), (11, blX9_loadFloat_11), (15, blX9_loadFloat_15), (16, blX9_loadFloat_16), (21, blX9_loadFloat_21), (27, blX9_loadFloat_27), (38, blX9_loadFloat_38), (44, blX9_loadFloat_44), (50, blX9_loadFloat_50), (61, blX9_loadFloat_61), (65, blX9_loadFloat_65), (70, blX9_loadFloat_70), (76, blX9_loadFloat_76), (82, blX9_loadFloat_82), (88, blX9_loadFloat_88), (91, blX9_loadFloat_91), (97, blX9_loadFloat_97), (103, blX9_loadFloat_103), (106, blX9_loadFloat_106), (115, blX9_loadFloat_115), (120, blX9_loadFloat_120), (124, blX9_loadFloat_124), (125, blX9_loadFloat_125), (136, blX9_loadFloat_136), (140, blX9_loadFloat_140), (145, blX9_loadFloat_145), (151, blX9_loadFloat_151), (152, blX9_loadFloat_152), (156, blX9_loadFloat_156), (159, blX9_loadFloat_159), (170, blX9_loadFloat_170), (178, blX9_loadFloat_178), (187, blX9_loadFloat_187), (190, blX9_loadFloat_190), (196, blX9_loadFloat_196), (202, blX9_loadFloat_202), (204, blX9_loadFloat_204), (209, blX9_loadFloat_209), (212, blX9_loadFloat_212), (214, blX9_loadFloat_214), (218, blX9_loadFloat_218), (222, blX9_loadFloat_222), (223, blX9_loadFloat_223), (227, blX9_loadFloat_227), (233, blX9_loadFloat_233), (236, blX9_loadFloat_236), (246, blX9_loadFloat_246), (254, blX9_loadFloat_254), (256, blX9_loadFloat_256), (261, blX9_loadFloat_261), (268, blX9_loadFloat_268), (271, blX9_loadFloat_271), (280, blX9_loadFloat_280), (286, blX9_loadFloat_286)]
theorem bqX9_loadFloat_0 : aLook bkX9_loadFloat 0 = some blX9_loadFloat_0 := rfl
theorem bqX9_loadFloat_11 : aLook bkX9_loadFloat 11 = some blX9_loadFloat_11 := rfl
theorem bqX9_loadFloat_15 : aLook bkX9_loadFloat 15 = some blX9_loadFloat_15 := rfl
theorem bqX9_loadFloat_16 : aLook bkX9_loadFloat 16 = some blX9_loadFloat_16 := rfl
theorem bqX9_loadFloat_21 : aLook bkX9_loadFloat 21 = some blX9_loadFloat_21 := rfl
theorem bqX9_loadFloat_27 : aLook bkX9_loadFloat 27 = some blX9_loadFloat_27 := rfl
theorem bqX9_loadFloat_38 : aLook bkX9_loadFloat 38 = some blX9_loadFloat_38 := rfl
theorem bqX9_loadFloat_44 : aLook bkX9_loadFloat 44 = some blX9_loadFloat_44 := rfl
theorem bqX9_loadFloat_50 : aLook bkX9_loadFloat 50 = some blX9_loadFloat_50 := rfl
theorem bqX9_loadFloat_61 : aLook bkX9_loadFloat 61 = some blX9_loadFloat_61 := rfl
theorem bqX9_loadFloat_65 : aLook bkX9_loadFloat 65 = some blX9_loadFloat_65 := rfl
theorem bqX9_loadFloat_70 : aLook bkX9_loadFloat 70 = some blX9_loadFloat_70 := rfl
theorem bqX9_loadFloat_76 : aLook bkX9_loadFloat 76 = some blX9_loadFloat_76 := rfl
theorem bqX9_loadFloat_82 : aLook bkX9_loadFloat 82 = some blX9_loadFloat_82 := rfl
theorem bqX9_loadFloat_88 : aLook bkX9_loadFloat 88 = some blX9_loadFloat_88 := rfl
theorem bqX9_loadFloat_91 : aLook bkX9_loadFloat 91 = some blX9_loadFloat_91 := rfl
theorem bqX9_loadFloat_97 : aLook bkX9_loadFloat 97 = some blX9_loadFloat_97 := rfl
theorem bqX9_loadFloat_103 : aLook bkX9_loadFloat 103 = some blX9_loadFloat_103 := rfl
theorem bqX9_loadFloat_106 : aLook bkX9_loadFloat 106 = some blX9_loadFloat_106 := rfl
theorem bqX9_loadFloat_115 : aLook bkX9_loadFloat 115 = some blX9_loadFloat_115 := rfl
theorem bqX9_loadFloat_120 : aLook bkX9_loadFloat 120 = some blX9_loadFloat_120 := rfl
theorem bqX9_loadFloat_124 : aLook bkX9_loadFloat 124 = some blX9_loadFloat_124 := rfl
theorem bqX9_loadFloat_125 : aLook bkX9_loadFloat 125 = some blX9_loadFloat_125 := rfl
theorem bqX9_loadFloat_136 : aLook bkX9_loadFloat 136 = some blX9_loadFloat_136 := rfl
theorem bqX9_loadFloat_140 : aLook bkX9_loadFloat 140 = some blX9_loadFloat_140 := rfl
theorem bqX9_loadFloat_145 : aLook bkX9_loadFloat 145 = some blX9_loadFloat_145 := rfl
theorem bqX9_loadFloat_151 : aLook bkX9_loadFloat 151 = some blX9_loadFloat_151 := rfl
theorem bqX9_loadFloat_152 : aLook bkX9_loadFloat 152 = some blX9_loadFloat_152 := rfl
theorem bqX9_loadFloat_156 : aLook bkX9_loadFloat 156 = some blX9_loadFloat_156 := rfl
theorem bqX9_loadFloat_159 : aLook bkX9_loadFloat 159 = some blX9_loadFloat_159 := rfl
theorem bqX9_loadFloat_170 : aLook bkX9_loadFloat 170 = some blX9_loadFloat_170 := rfl
theorem bqX9_loadFloat_178 : aLook bkX9_loadFloat 178 = some blX9_loadFloat_178 := rfl
theorem bqX9_loadFloat_187 : aLook bkX9_loadFloat 187 = some blX9_loadFloat_187 := rfl
theorem bqX9_loadFloat_190 : aLook bkX9_loadFloat 190 = some blX9_loadFloat_190 := rfl
theorem bqX9_loadFloat_196 : aLook bkX9_loadFloat 196 = some blX9_loadFloat_196 := rfl
theorem bqX9_loadFloat_202 : aLook bkX9_loadFloat 202 = some blX9_loadFloat_202 := rfl
theorem bqX9_loadFloat_204 : aLook bkX9_loadFloat 204 = some blX9_loadFloat_204 := rfl
theorem bqX9_loadFloat_209 : aLook bkX9_loadFloat 209 = some blX9_loadFloat_209 := rfl
theorem bqX9_loadFloat_212 : aLook bkX9_loadFloat 212 = some blX9_loadFloat_212 := rfl
theorem bqX9_loadFloat_214 : aLook bkX9_loadFloat 214 = some blX9_loadFloat_214 := rfl
theorem bqX9_loadFloat_218 : aLook bkX9_loadFloat 218 = some blX9_loadFloat_218 := rfl
theorem bqX9_loadFloat_222 : aLook bkX9_loadFloat 222 = some blX9_loadFloat_222 := rfl
theorem bqX9_loadFloat_223 : aLook bkX9_loadFloat 223 = some blX9_loadFloat_223 := rfl
theorem bqX9_loadFloat_227 : aLook bkX9_loadFloat 227 = some blX9_loadFloat_227 := rfl
theorem bqX9_loadFloat_233 : aLook bkX9_loadFloat 233 = some blX9_loadFloat_233 := rfl
theorem bqX9_loadFloat_236 : aLook bkX9_loadFloat 236 = some blX9_loadFloat_236 := rfl
theorem bqX9_loadFloat_246 : aLook bkX9_loadFloat 246 = some blX9_loadFloat_246 := rfl
theorem bqX9_loadFloat_254 : aLook bkX9_loadFloat 254 = some blX9_loadFloat_254 := rfl
theorem bqX9_loadFloat_256 : aLook bkX9_loadFloat 256 = some blX9_loadFloat_256 := rfl
theorem bqX9_loadFloat_261 : aLook bkX9_loadFloat 261 = some blX9_loadFloat_261 := rfl
theorem bqX9_loadFloat_268 : aLook bkX9_loadFloat 268 = some blX9_loadFloat_268 := rfl
theorem bqX9_loadFloat_271 : aLook bkX9_loadFloat 271 = some blX9_loadFloat_271 := rfl
theorem bqX9_loadFloat_280 : aLook bkX9_loadFloat 280 = some blX9_loadFloat_280 := rfl
theorem bqX9_loadFloat_286 : aLook bkX9_loadFloat 286 = some blX9_loadFloat_286 := rfl
theorem boX9_loadFloat : ∀ pc is, aLook bkX9_loadFloat pc = some is → aBlk RX9 cX9_loadFloat 7 false pc is := aBks_ok (lk := lkX9) lkX9_ok (by decide +kernel)
def blX9_isMiddle_0 : List aIn := [(.aload_n 0, 0, 0, 0, []), (.iload_n 1, 1, 0, 0, []), (.bipush 8, 8, 0, 0, []), (.invokevirtual 47, 3, 0, 0, [])]
def blX9_isMiddle_7 : List aIn := [(.aload_n 0, 0, 0, 0, []), (.bipush 8, 8, 0, 0, []), (.bipush 31, 31, 0, 0, []), (.invokevirtual 103, 3, 0, 0, [])]
def blX9_isMiddle_15 : List aIn := [(.aload_n 0, 0, 0, 0, []), (.iload_n 2, 2, 0, 0, []), (.bipush 9, 9, 0, 0, []), (.invokevirtual 47, 3, 0, 0, [])]
def blX9_isMiddle_22 : List aIn := [(.aload_n 0, 0, 0, 0, []), (.bipush 9, 9, 0, 0, []), (.bipush 31, 31, 0, 0, []), (.invokevirtual 103, 3, 0, 0, [])]
def blX9_isMiddle_30 : List aIn := [(.aload_n 0, 0, 0, 0, []), (.bipush 8, 8, 0, 0, []), (.iload_n 2, 2, 0, 0, []), (.invokevirtual 58, 3, 0, 0, [])]
def blX9_isMiddle_37 : List aIn := [(.ifCond .lt 17, 54, 0, 0, [])]
def blX9_isMiddle_40 : List aIn := [(.aload_n 0, 0, 0, 0, []), (.iload_n 1, 1, 0, 0, []), (.bipush 9, 9, 0, 0, []), (.invokevirtual 58, 3, 0, 0, [])]
def blX9_isMiddle_47 : List aIn := [(.ifCond .ge 7, 54, 0, 0, [])]
def blX9_isMiddle_50 : List aIn := [(.iconst 1, 1, 0, 0, []), (.goto 4, 55, 0, 0, [])]
def blX9_isMiddle_54 : List aIn := [(.iconst 0, 0, 0, 0, [])]
def blX9_isMiddle_55 : List aIn := [(.ireturn, 0, 0, 0, [])]
def bkX9_isMiddle : List (Nat × List aIn) := [(0, blX9_isMiddle_0), (7, blX9_isMiddle_7), (15, blX9_isMiddle_15), (22, blX9_isMiddle_22), (30, blX9_isMiddle_30), (37, blX9_isMiddle_37), (40, blX9_isMiddle_40), (47, blX9_isMiddle_47), (50, blX9_isMiddle_50), (54, blX9_isMiddle_54), (55, blX9_isMiddle_55)]
theorem bqX9_isMiddle_0 : aLook bkX9_isMiddle 0 = some blX9_isMiddle_0 := rfl
theorem bqX9_isMiddle_7 : aLook bkX9_isMiddle 7 = some blX9_isMiddle_7 := rfl
theorem bqX9_isMiddle_15 : aLook bkX9_isMiddle 15 = some blX9_isMiddle_15 := rfl
theorem bqX9_isMiddle_22 : aLook bkX9_isMiddle 22 = some blX9_isMiddle_22 := rfl
theorem bqX9_isMiddle_30 : aLook bkX9_isMiddle 30 = some blX9_isMiddle_30 := rfl
theorem bqX9_isMiddle_37 : aLook bkX9_isMiddle 37 = some blX9_isMiddle_37 := rfl
theorem bqX9_isMiddle_40 : aLook bkX9_isMiddle 40 = some blX9_isMiddle_40 := rfl
theorem bqX9_isMiddle_47 : aLook bkX9_isMiddle 47 = some blX9_isMiddle_47 := rfl
theorem bqX9_isMiddle_50 : aLook bkX9_isMiddle 50 = some blX9_isMiddle_50 := rfl
theorem bqX9_isMiddle_54 : aLook bkX9_isMiddle 54 = some blX9_isMiddle_54 := rfl
theorem bqX9_isMiddle_55 : aLook bkX9_isMiddle 55 = some blX9_isMiddle_55 := rfl
theorem boX9_isMiddle : ∀ pc is, aLook bkX9_isMiddle pc = some is → aBlk RX9 cX9_isMiddle 3 false pc is := aBks_ok (lk := lkX9) lkX9_ok (by decide +kernel)
def blX9_valid_0 : List aIn := [(.aload_n 0, 0, 0, 0, []), (.aload_n 0, 0, 0, 0, []), (.iload_n 1, 1, 0, 0, []), (.invokevirtual 74, 2, 0, 0, [])]
def blX9_valid_6 : List aIn := [(.ifCond .ne 7, 13, 0, 0, [])]
def blX9_valid_9 : List aIn := [(.iconst 1, 1, 0, 0, []), (.goto 4, 14, 0, 0, [])]
def blX9_valid_13 : List aIn := [(.iconst 0, 0, 0, 0, [])]
def blX9_valid_14 : List aIn := [(.iconst 0, 0, 0, 0, []), (.invokevirtual 67, 3, 0, 0, [])]
def blX9_valid_18 : List aIn := [(.ifCond .eq 5, 23, 0, 0, [])]
def blX9_valid_21 : List aIn := [(.iconst 0, 0, 0, 0, []), (.ireturn, 0, 0, 0, [])]
def blX9_valid_23 : List aIn := [(.aload_n 0, 0, 0, 0, []), (.iload_n 1, 1, 0, 0, []), (.invokevirtual 124, 2, 0, 0, [])]
def blX9_valid_28 : List aIn := [(.ireturn, 0, 0, 0, [])]
def bkX9_valid : List (Nat × List aIn) := [(0, blX9_valid_0), (6, blX9_valid_6), (9, blX9_valid_9), (13, blX9_valid_13), (14, blX9_valid_14), (18, blX9_valid_18), (21, blX9_valid_21), (23, blX9_valid_23), (28, blX9_valid_28)]
theorem bqX9_valid_0 : aLook bkX9_valid 0 = some blX9_valid_0 := rfl
theorem bqX9_valid_6 : aLook bkX9_valid 6 = some blX9_valid_6 := rfl
theorem bqX9_valid_9 : aLook bkX9_valid 9 = some blX9_valid_9 := rfl
theorem bqX9_valid_13 : aLook bkX9_valid 13 = some blX9_valid_13 := rfl
theorem bqX9_valid_14 : aLook bkX9_valid 14 = some blX9_valid_14 := rfl
theorem bqX9_valid_18 : aLook bkX9_valid 18 = some blX9_valid_18 := rfl
theorem bqX9_valid_21 : aLook bkX9_valid 21 = some blX9_valid_21 := rfl
theorem bqX9_valid_23 : aLook bkX9_valid 23 = some blX9_valid_23 := rfl
theorem bqX9_valid_28 : aLook bkX9_valid 28 = some blX9_valid_28 := rfl
theorem boX9_valid : ∀ pc is, aLook bkX9_valid pc = some is → aBlk RX9 cX9_valid 2 false pc is := aBks_ok (lk := lkX9) lkX9_ok (by decide +kernel)
def blX9_rises_0 : List aIn := [(.aload_n 0, 0, 0, 0, []), (.bipush 7, 7, 0, 0, []), (.bipush 8, 8, 0, 0, []), (.invokevirtual 47, 3, 0, 0, [])]
def blX9_rises_8 : List aIn := [(.aload_n 0, 0, 0, 0, []), (.bipush 8, 8, 0, 0, []), (.iconst 2, 2, 0, 0, []), (.invokevirtual 43, 3, 0, 0, [])]
def blX9_rises_15 : List aIn := [(.aload_n 0, 0, 0, 0, []), (.bipush 8, 8, 0, 0, []), (.iload_n 2, 2, 0, 0, []), (.invokevirtual 58, 3, 0, 0, [])]
def blX9_rises_22 : List aIn := [(.istore_n 3, 3, 0, 0, []), (.aload_n 0, 0, 0, 0, []), (.bipush 6, 6, 0, 0, []), (.iconst 0, 0, 0, 0, []), (.invokevirtual 50, 3, 0, 0, [])]
def blX9_rises_30 : List aIn := [(.iconst 1, 1, 0, 0, []), (.if_icmp .ne 7, 38, 0, 0, [])]
def blX9_rises_34 : List aIn := [(.iconst 1, 1, 0, 0, []), (.goto 4, 39, 0, 0, [])]
def blX9_rises_38 : List aIn := [(.iconst 0, 0, 0, 0, [])]
def blX9_rises_39 : List aIn := [(.istore 4, 4, 0, 0, []), (.iload_n 1, 1, 0, 0, []), (.tableswitch 105 1 6 #[38, 48, 67, 77, 79, 92], 1, 147, 0, [80, 90, 109, 119, 121, 134])]
def blX9_rises_80 : List aIn := [(.iload_n 3, 3, 0, 0, []), (.ifCond .lt 7, 88, 0, 0, [])]
def blX9_rises_84 : List aIn := [(.iconst 1, 1, 0, 0, []), (.goto 4, 89, 0, 0, [])]
def blX9_rises_88 : List aIn := [(.iconst 0, 0, 0, 0, [])]
def blX9_rises_89 : List aIn := [(.ireturn, 0, 0, 0, [])]
def blX9_rises_90 : List aIn := [(.iload_n 3, 3, 0, 0, []), (.ifCond .gt 12, 103, 0, 0, [])]
def blX9_rises_94 : List aIn := [(.iload_n 3, 3, 0, 0, []), (.ifCond .ne 12, 107, 0, 0, [])]
def blX9_rises_98 : List aIn := [(.iload 4, 4, 0, 0, []), (.ifCond .eq 7, 107, 0, 0, [])]
def blX9_rises_103 : List aIn := [(.iconst 1, 1, 0, 0, []), (.goto 4, 108, 0, 0, [])]
def blX9_rises_107 : List aIn := [(.iconst 0, 0, 0, 0, [])]
def blX9_rises_108 : List aIn := [(.ireturn, 0, 0, 0, [])]
def blX9_rises_109 : List aIn := [(.iload_n 3, 3, 0, 0, []), (.ifCond .le 7, 117, 0, 0, [])]
def blX9_rises_113 : List aIn := [(.iconst 1, 1, 0, 0, []), (.goto 4, 118, 0, 0, [])]
def blX9_rises_117 : List aIn := [(.iconst 0, 0, 0, 0, [])]
def blX9_rises_118 : List aIn := [(.ireturn, 0, 0, 0, [])]
def blX9_rises_119 : List aIn := [(.iconst 1, 1, 0, 0, []), (.ireturn, 0, 0, 0, [])]
def blX9_rises_121 : List aIn := [(.aload_n 0, 0, 0, 0, []), (.getfield 127, 10, 11, 0, []), (.ifCond .le 7, 132, 0, 0, [])]
def blX9_rises_128 : List aIn := [(.iconst 1, 1, 0, 0, []), (.goto 4, 133, 0, 0, [])]
def blX9_rises_132 : List aIn := [(.iconst 0, 0, 0, 0, [])]
def blX9_rises_133 : List aIn := [(.ireturn, 0, 0, 0, [])]
def blX9_rises_134 : List aIn := [(.aload_n 0, 0, 0, 0, []), (.getfield 127, 10, 11, 0, []), (.ifCond .ge 7, 145, 0, 0, [])]
def blX9_rises_141 : List aIn := [(.iconst 1, 1, 0, 0, []), (.goto 4, 146, 0, 0, [])]
def blX9_rises_145 : List aIn := [(.iconst 0, 0, 0, 0, [])]
def blX9_rises_146 : List aIn := [(.ireturn, 0, 0, 0, [])]
def blX9_rises_147 : List aIn := [(.iconst 0, 0, 0, 0, []), (.ireturn, 0, 0, 0, [])]
def bkX9_rises : List (Nat × List aIn) := [(0, blX9_rises_0), (8, blX9_rises_8), (15, blX9_rises_15), (22, blX9_rises_22), (30, blX9_rises_30), (34, blX9_rises_34), (38, blX9_rises_38), (39, blX9_rises_39), (80, blX9_rises_80), (84, blX9_rises_84), (88, blX9_rises_88), (89, blX9_rises_89), (90, blX9_rises_90), (94, blX9_rises_94), (98, blX9_rises_98), (103, blX9_rises_103), (107, blX9_rises_107), (108, blX9_rises_108), (109, blX9_rises_109), (113, blX9_rises_113), (117, blX9_rises_117), (118, blX9_rises_118), (119, blX9_rises_119), (121, blX9_rises_121), (128, blX9_rises_128), (132, blX9_rises_132), (133, blX9_rises_133), (134, blX9_rises_134), (141, blX9_rises_141), (145, blX9_rises_145), (146, blX9_rises_146), (147, blX9_rises_147)]
theorem bqX9_rises_0 : aLook bkX9_rises 0 = some blX9_rises_0 := rfl
theorem bqX9_rises_8 : aLook bkX9_rises 8 = some blX9_rises_8 := rfl
theorem bqX9_rises_15 : aLook bkX9_rises 15 = some blX9_rises_15 := rfl
theorem bqX9_rises_22 : aLook bkX9_rises 22 = some blX9_rises_22 := rfl
theorem bqX9_rises_30 : aLook bkX9_rises 30 = some blX9_rises_30 := rfl
theorem bqX9_rises_34 : aLook bkX9_rises 34 = some blX9_rises_34 := rfl
theorem bqX9_rises_38 : aLook bkX9_rises 38 = some blX9_rises_38 := rfl
theorem bqX9_rises_39 : aLook bkX9_rises 39 = some blX9_rises_39 := rfl
theorem bqX9_rises_80 : aLook bkX9_rises 80 = some blX9_rises_80 := rfl
theorem bqX9_rises_84 : aLook bkX9_rises 84 = some blX9_rises_84 := rfl
theorem bqX9_rises_88 : aLook bkX9_rises 88 = some blX9_rises_88 := rfl
theorem bqX9_rises_89 : aLook bkX9_rises 89 = some blX9_rises_89 := rfl
theorem bqX9_rises_90 : aLook bkX9_rises 90 = some blX9_rises_90 := rfl
theorem bqX9_rises_94 : aLook bkX9_rises 94 = some blX9_rises_94 := rfl
theorem bqX9_rises_98 : aLook bkX9_rises 98 = some blX9_rises_98 := rfl
theorem bqX9_rises_103 : aLook bkX9_rises 103 = some blX9_rises_103 := rfl
theorem bqX9_rises_107 : aLook bkX9_rises 107 = some blX9_rises_107 := rfl
theorem bqX9_rises_108 : aLook bkX9_rises 108 = some blX9_rises_108 := rfl
theorem bqX9_rises_109 : aLook bkX9_rises 109 = some blX9_rises_109 := rfl
theorem bqX9_rises_113 : aLook bkX9_rises 113 = some blX9_rises_113 := rfl
theorem bqX9_rises_117 : aLook bkX9_rises 117 = some blX9_rises_117 := rfl
theorem bqX9_rises_118 : aLook bkX9_rises 118 = some blX9_rises_118 := rfl
theorem bqX9_rises_119 : aLook bkX9_rises 119 = some blX9_rises_119 := rfl
theorem bqX9_rises_121 : aLook bkX9_rises 121 = some blX9_rises_121 := rfl
theorem bqX9_rises_128 : aLook bkX9_rises 128 = some blX9_rises_128 := rfl
theorem bqX9_rises_132 : aLook bkX9_rises 132 = some blX9_rises_132 := rfl
theorem bqX9_rises_133 : aLook bkX9_rises 133 = some blX9_rises_133 := rfl
theorem bqX9_rises_134 : aLook bkX9_rises 134 = some blX9_rises_134 := rfl
theorem bqX9_rises_141 : aLook bkX9_rises 141 = some blX9_rises_141 := rfl
theorem bqX9_rises_145 : aLook bkX9_rises 145 = some blX9_rises_145 := rfl
theorem bqX9_rises_146 : aLook bkX9_rises 146 = some blX9_rises_146 := rfl
theorem bqX9_rises_147 : aLook bkX9_rises 147 = some blX9_rises_147 := rfl
theorem boX9_rises : ∀ pc is, aLook bkX9_rises pc = some is → aBlk RX9 cX9_rises 5 false pc is := aBks_ok (lk := lkX9) lkX9_ok (by decide +kernel)
def blX9_store_0 : List aIn := [(.aload_n 0, 0, 0, 0, []), (.getfield 13, 10, 2, 2, []), (.iload_n 1, 1, 0, 0, []), (.iaload, 0, 0, 0, []), (.istore_n 2, 2, 0, 0, []), (.iload_n 2, 2, 0, 0, []), (.bipush 9, 9, 0, 0, []), (.if_icmp .eq 9, 19, 0, 0, [])]
def blX9_store_13 : List aIn := [(.iload_n 2, 2, 0, 0, []), (.bipush 10, 10, 0, 0, []), (.if_icmp .ne 25, 41, 0, 0, [])]
def blX9_store_19 : List aIn := [(.aload_n 0, 0, 0, 0, []), (.iload_n 1, 1, 0, 0, []), (.aload_n 0, 0, 0, 0, []), (.getfield 26, 10, 6, 2, []), (.iload_n 1, 1, 0, 0, []), (.iaload, 0, 0, 0, []), (.bipush 7, 7, 0, 0, []), (.if_icmp .ne 7, 36, 0, 0, [])]
def blX9_store_32 : List aIn := [(.iconst 1, 1, 0, 0, []), (.goto 4, 37, 0, 0, [])]
def blX9_store_36 : List aIn := [(.iconst 0, 0, 0, 0, [])]
def blX9_store_37 : List aIn := [(.invokevirtual 130, 3, 0, 0, [])]
def blX9_store_40 : List aIn := [(.ireturn, 0, 0, 0, [])]
def blX9_store_41 : List aIn := [(.aload_n 0, 0, 0, 0, []), (.iconst 4, 4, 0, 0, []), (.bipush 9, 9, 0, 0, []), (.invokevirtual 47, 3, 0, 0, [])]
def blX9_store_48 : List aIn := [(.aload_n 0, 0, 0, 0, []), (.bipush 9, 9, 0, 0, []), (.aload_n 0, 0, 0, 0, []), (.getfield 20, 10, 4, 2, []), (.iload_n 1, 1, 0, 0, []), (.iaload, 0, 0, 0, []), (.invokevirtual 103, 3, 0, 0, [])]
def blX9_store_60 : List aIn := [(.aload_n 0, 0, 0, 0, []), (.bipush 9, 9, 0, 0, []), (.iconst 5, 5, 0, 0, []), (.invokevirtual 134, 3, 0, 0, [])]
def blX9_store_67 : List aIn := [(.aload_n 0, 0, 0, 0, []), (.bipush 7, 7, 0, 0, []), (.invokevirtual 106, 2, 0, 0, [])]
def blX9_store_73 : List aIn := [(.ifCond .ne 7, 80, 0, 0, [])]
def blX9_store_76 : List aIn := [(.iconst 1, 1, 0, 0, []), (.goto 4, 81, 0, 0, [])]
def blX9_store_80 : List aIn := [(.iconst 0, 0, 0, 0, [])]
def blX9_store_81 : List aIn := [(.istore_n 3, 3, 0, 0, []), (.iload_n 3, 3, 0, 0, []), (.ifCond .eq 16, 99, 0, 0, [])]
def blX9_store_86 : List aIn := [(.aload_n 0, 0, 0, 0, []), (.getfield 26, 10, 6, 2, []), (.iload_n 1, 1, 0, 0, []), (.iaload, 0, 0, 0, []), (.bipush 7, 7, 0, 0, []), (.if_icmp .ne 5, 99, 0, 0, [])]
def blX9_store_97 : List aIn := [(.iconst 0, 0, 0, 0, []), (.ireturn, 0, 0, 0, [])]
def blX9_store_99 : List aIn := [(.iload_n 3, 3, 0, 0, []), (.ifCond .eq 24, 124, 0, 0, [])]
def blX9_store_103 : List aIn := [(.aload_n 0, 0, 0, 0, []), (.aload_n 0, 0, 0, 0, []), (.getfield 26, 10, 6, 2, []), (.iload_n 1, 1, 0, 0, []), (.iaload, 0, 0, 0, []), (.iconst 5, 5, 0, 0, []), (.invokevirtual 137, 3, 0, 0, [])]
def blX9_store_114 : List aIn := [(.ifCond .eq 10, 124, 0, 0, [])]
def blX9_store_117 : List aIn := [(.aload_n 0, 0, 0, 0, []), (.bipush 6, 6, 0, 0, []), (.iconst 1, 1, 0, 0, []), (.invokevirtual 82, 3, 0, 0, [])]
def blX9_store_124 : List aIn := [(.aload_n 0, 0, 0, 0, []), (.getfield 127, 10, 11, 0, []), (.ifCond .ge 16, 144, 0, 0, [])]
def blX9_store_131 : List aIn := [(.aload_n 0, 0, 0, 0, []), (.bipush 6, 6, 0, 0, []), (.invokevirtual 106, 2, 0, 0, [])]
def blX9_store_137 : List aIn := [(.ifCond .ne 7, 144, 0, 0, [])]
def blX9_store_140 : List aIn := [(.iconst (-1), 1, 1, 0, []), (.goto 4, 145, 0, 0, [])]
def blX9_store_144 : List aIn := [(.iconst 1, 1, 0, 0, [])]
def blX9_store_145 : List aIn := [(.istore 4, 4, 0, 0, []), (.aload_n 0, 0, 0, 0, []), (.iload_n 1, 1, 0, 0, []), (.iload 4, 4, 0, 0, []), (.invokevirtual 140, 3, 0, 0, [])]
def blX9_store_154 : List aIn := [(.ifCond .ne 5, 159, 0, 0, [])]
def blX9_store_157 : List aIn := [(.iconst 0, 0, 0, 0, []), (.ireturn, 0, 0, 0, [])]
def blX9_store_159 : List aIn := [(.aload_n 0, 0, 0, 0, []), (.iload_n 1, 1, 0, 0, []), (.iload 4, 4, 0, 0, []), (.invokevirtual 143, 3, 0, 0, [])]
def blX9_store_166 : List aIn := [(.iconst 1, 1, 0, 0, []), (.ireturn, 0, 0, 0, [])]
def bkX9_store : List (Nat × List aIn) := [(0, blX9_store_0), (13, blX9_store_13), (19, blX9_store_19), (32, blX9_store_32), (36, blX9_store_36), (37, blX9_store_37), (40, blX9_store_40), (41, blX9_store_41), (48, blX9_store_48), (60, blX9_store_60), (67, blX9_store_67), (73, blX9_store_73), (76, blX9_store_76), (80, blX9_store_80), (81, blX9_store_81), (86, blX9_store_86), (97, blX9_store_97), (99, blX9_store_99), (103, blX9_store_103), (114, blX9_store_114), (117, blX9_store_117), (124, blX9_store_124), (131, blX9_store_131), (137, blX9_store_137), (140, blX9_store_140), (144, blX9_store_144), (145, blX9_store_145), (154, blX9_store_154), (157, blX9_store_157), (159, blX9_store_159), (166, blX9_store_166)]
theorem bqX9_store_0 : aLook bkX9_store 0 = some blX9_store_0 := rfl
theorem bqX9_store_13 : aLook bkX9_store 13 = some blX9_store_13 := rfl
theorem bqX9_store_19 : aLook bkX9_store 19 = some blX9_store_19 := rfl
theorem bqX9_store_32 : aLook bkX9_store 32 = some blX9_store_32 := rfl
theorem bqX9_store_36 : aLook bkX9_store 36 = some blX9_store_36 := rfl
theorem bqX9_store_37 : aLook bkX9_store 37 = some blX9_store_37 := rfl
theorem bqX9_store_40 : aLook bkX9_store 40 = some blX9_store_40 := rfl
theorem bqX9_store_41 : aLook bkX9_store 41 = some blX9_store_41 := rfl
theorem bqX9_store_48 : aLook bkX9_store 48 = some blX9_store_48 := rfl
theorem bqX9_store_60 : aLook bkX9_store 60 = some blX9_store_60 := rfl
theorem bqX9_store_67 : aLook bkX9_store 67 = some blX9_store_67 := rfl
theorem bqX9_store_73 : aLook bkX9_store 73 = some blX9_store_73 := rfl
theorem bqX9_store_76 : aLook bkX9_store 76 = some blX9_store_76 := rfl
theorem bqX9_store_80 : aLook bkX9_store 80 = some blX9_store_80 := rfl
theorem bqX9_store_81 : aLook bkX9_store 81 = some blX9_store_81 := rfl
theorem bqX9_store_86 : aLook bkX9_store 86 = some blX9_store_86 := rfl
theorem bqX9_store_97 : aLook bkX9_store 97 = some blX9_store_97 := rfl
theorem bqX9_store_99 : aLook bkX9_store 99 = some blX9_store_99 := rfl
theorem bqX9_store_103 : aLook bkX9_store 103 = some blX9_store_103 := rfl
theorem bqX9_store_114 : aLook bkX9_store 114 = some blX9_store_114 := rfl
theorem bqX9_store_117 : aLook bkX9_store 117 = some blX9_store_117 := rfl
theorem bqX9_store_124 : aLook bkX9_store 124 = some blX9_store_124 := rfl
theorem bqX9_store_131 : aLook bkX9_store 131 = some blX9_store_131 := rfl
theorem bqX9_store_137 : aLook bkX9_store 137 = some blX9_store_137 := rfl
theorem bqX9_store_140 : aLook bkX9_store 140 = some blX9_store_140 := rfl
theorem bqX9_store_144 : aLook bkX9_store 144 = some blX9_store_144 := rfl
theorem bqX9_store_145 : aLook bkX9_store 145 = some blX9_store_145 := rfl
theorem bqX9_store_154 : aLook bkX9_store 154 = some blX9_store_154 := rfl
theorem bqX9_store_157 : aLook bkX9_store 157 = some blX9_store_157 := rfl
theorem bqX9_store_159 : aLook bkX9_store 159 = some blX9_store_159 := rfl
theorem bqX9_store_166 : aLook bkX9_store 166 = some blX9_store_166 := rfl
theorem boX9_store : ∀ pc is, aLook bkX9_store pc = some is → aBlk RX9 cX9_store 5 false pc is := aBks_ok (lk := lkX9) lkX9_ok (by decide +kernel)
def blX9_fits_0 : List aIn := [(.aload_n 0, 0, 0, 0, []), (.bipush 8, 8, 0, 0, []), (.iconst 1, 1, 0, 0, []), (.invokevirtual 85, 3, 0, 0, [])]
def blX9_fits_7 : List aIn := [(.aload_n 0, 0, 0, 0, []), (.getfield 13, 10, 2, 2, []), (.iload_n 1, 1, 0, 0, []), (.iaload, 0, 0, 0, []), (.bipush 8, 8, 0, 0, []), (.if_icmp .ne 60, 75, 0, 0, [])]
def blX9_fits_18 : List aIn := [(.aload_n 0, 0, 0, 0, []), (.bipush 8, 8, 0, 0, []), (.bipush 8, 8, 0, 0, []), (.aload_n 0, 0, 0, 0, []), (.getfield 23, 10, 5, 2, []), (.iload_n 1, 1, 0, 0, []), (.iaload, 0, 0, 0, []), (.imul, 0, 0, 0, []), (.iconst 1, 1, 0, 0, []), (.isub, 0, 0, 0, []), (.invokevirtual 118, 3, 0, 0, [])]
def blX9_fits_35 : List aIn := [(.iload_n 2, 2, 0, 0, []), (.ifCond .ge 22, 58, 0, 0, [])]
def blX9_fits_39 : List aIn := [(.aload_n 0, 0, 0, 0, []), (.bipush 6, 6, 0, 0, []), (.bipush 8, 8, 0, 0, []), (.invokevirtual 58, 3, 0, 0, [])]
def blX9_fits_47 : List aIn := [(.ifCond .gt 7, 54, 0, 0, [])]
def blX9_fits_50 : List aIn := [(.iconst 1, 1, 0, 0, []), (.goto 23, 74, 0, 0, [])]
def blX9_fits_54 : List aIn := [(.iconst 0, 0, 0, 0, []), (.goto 19, 74, 0, 0, [])]
def blX9_fits_58 : List aIn := [(.aload_n 0, 0, 0, 0, []), (.bipush 6, 6, 0, 0, []), (.bipush 8, 8, 0, 0, []), (.invokevirtual 58, 3, 0, 0, [])]
def blX9_fits_66 : List aIn := [(.ifCond .ge 7, 73, 0, 0, [])]
def blX9_fits_69 : List aIn := [(.iconst 1, 1, 0, 0, []), (.goto 4, 74, 0, 0, [])]
def blX9_fits_73 : List aIn := [(.iconst 0, 0, 0, 0, [])]
def blX9_fits_74 : List aIn := [(.ireturn, 0, 0, 0, [])]
def blX9_fits_75 : List aIn := [(.aload_n 0, 0, 0, 0, []), (.bipush 8, 8, 0, 0, []), (.aload_n 0, 0, 0, 0, []), (.getfield 17, 10, 3, 2, []), (.iload_n 1, 1, 0, 0, []), (.iaload, 0, 0, 0, []), (.invokevirtual 103, 3, 0, 0, [])]
def blX9_fits_87 : List aIn := [(.aload_n 0, 0, 0, 0, []), (.bipush 6, 6, 0, 0, []), (.bipush 8, 8, 0, 0, []), (.invokevirtual 58, 3, 0, 0, [])]
def blX9_fits_95 : List aIn := [(.ifCond .ge 7, 102, 0, 0, [])]
def blX9_fits_98 : List aIn := [(.iconst 1, 1, 0, 0, []), (.goto 4, 103, 0, 0, [])]
def blX9_fits_102 : List aIn := [(.iconst 0, 0, 0, 0, [])]
def blX9_fits_103 : List aIn := [(.ireturn, 0, 0, 0, [])]
def bkX9_fits : List (Nat × List aIn) := [(0, blX9_fits_0), (7, blX9_fits_7), (18, blX9_fits_18), (35, blX9_fits_35), (39, blX9_fits_39), (47, blX9_fits_47), (50, blX9_fits_50), (54, blX9_fits_54), (58, blX9_fits_58), (66, blX9_fits_66), (69, blX9_fits_69), (73, blX9_fits_73), (74, blX9_fits_74), (75, blX9_fits_75), (87, blX9_fits_87), (95, blX9_fits_95), (98, blX9_fits_98), (102, blX9_fits_102), (103, blX9_fits_103)]
theorem bqX9_fits_0 : aLook bkX9_fits 0 = some blX9_fits_0 := rfl
theorem bqX9_fits_7 : aLook bkX9_fits 7 = some blX9_fits_7 := rfl
theorem bqX9_fits_18 : aLook bkX9_fits 18 = some blX9_fits_18 := rfl
theorem bqX9_fits_35 : aLook bkX9_fits 35 = some blX9_fits_35 := rfl
theorem bqX9_fits_39 : aLook bkX9_fits 39 = some blX9_fits_39 := rfl
theorem bqX9_fits_47 : aLook bkX9_fits 47 = some blX9_fits_47 := rfl
theorem bqX9_fits_50 : aLook bkX9_fits 50 = some blX9_fits_50 := rfl
theorem bqX9_fits_54 : aLook bkX9_fits 54 = some blX9_fits_54 := rfl
theorem bqX9_fits_58 : aLook bkX9_fits 58 = some blX9_fits_58 := rfl
theorem bqX9_fits_66 : aLook bkX9_fits 66 = some blX9_fits_66 := rfl
theorem bqX9_fits_69 : aLook bkX9_fits 69 = some blX9_fits_69 := rfl
theorem bqX9_fits_73 : aLook bkX9_fits 73 = some blX9_fits_73 := rfl
theorem bqX9_fits_74 : aLook bkX9_fits 74 = some blX9_fits_74 := rfl
theorem bqX9_fits_75 : aLook bkX9_fits 75 = some blX9_fits_75 := rfl
theorem bqX9_fits_87 : aLook bkX9_fits 87 = some blX9_fits_87 := rfl
theorem bqX9_fits_95 : aLook bkX9_fits 95 = some blX9_fits_95 := rfl
theorem bqX9_fits_98 : aLook bkX9_fits 98 = some blX9_fits_98 := rfl
theorem bqX9_fits_102 : aLook bkX9_fits 102 = some blX9_fits_102 := rfl
theorem bqX9_fits_103 : aLook bkX9_fits 103 = some blX9_fits_103 := rfl
theorem boX9_fits : ∀ pc is, aLook bkX9_fits pc = some is → aBlk RX9 cX9_fits 3 false pc is := aBks_ok (lk := lkX9) lkX9_ok (by decide +kernel)
def blX9_put_0 : List aIn := [(.aload_n 0, 0, 0, 0, []), (.getfield 7, 10, 1, 2, []), (.bipush 64, 64, 0, 0, []), (.iload_n 1, 1, 0, 0, []), (.imul, 0, 0, 0, []), (.iload_n 2, 2, 0, 0, []), (.iadd, 0, 0, 0, []), (.iload_n 3, 3, 0, 0, []), (.i2b, 0, 0, 0, []), (.bastore, 0, 0, 0, []), (.return_, 0, 0, 0, [])]
def bkX9_put : List (Nat × List aIn) := [(0, blX9_put_0)]
theorem bqX9_put_0 : aLook bkX9_put 0 = some blX9_put_0 := rfl
theorem boX9_put : ∀ pc is, aLook bkX9_put pc = some is → aBlk RX9 cX9_put 4 false pc is := aBks_ok (lk := lkX9) lkX9_ok (by decide +kernel)
def blX9_write_0 : List aIn := [(.aload_n 0, 0, 0, 0, []), (.getfield 13, 10, 2, 2, []), (.iload_n 1, 1, 0, 0, []), (.iaload, 0, 0, 0, []), (.istore_n 3, 3, 0, 0, []), (.iload_n 3, 3, 0, 0, []), (.bipush 7, 7, 0, 0, []), (.if_icmp .eq 9, 19, 0, 0, [])]
def blX9_write_13 : List aIn := [(.iload_n 3, 3, 0, 0, []), (.bipush 8, 8, 0, 0, []), (.if_icmp .ne 10, 26, 0, 0, [])]
def blX9_write_19 : List aIn := [(.aload_n 0, 0, 0, 0, []), (.iload_n 1, 1, 0, 0, []), (.iload_n 2, 2, 0, 0, []), (.invokevirtual 146, 3, 0, 0, [])]
def blX9_write_25 : List aIn := [(.return_, 0, 0, 0, [])]
def blX9_write_26 : List aIn := [(.aload_n 0, 0, 0, 0, []), (.bipush 6, 6, 0, 0, []), (.bipush 9, 9, 0, 0, []), (.invokevirtual 47, 3, 0, 0, [])]
def blX9_write_34 : List aIn := [(.aload_n 0, 0, 0, 0, []), (.bipush 8, 8, 0, 0, []), (.bipush 10, 10, 0, 0, []), (.invokevirtual 85, 3, 0, 0, [])]
def blX9_write_42 : List aIn := [(.aload_n 0, 0, 0, 0, []), (.getfield 17, 10, 3, 2, []), (.iload_n 1, 1, 0, 0, []), (.iaload, 0, 0, 0, []), (.istore 4, 4, 0, 0, []), (.iconst 0, 0, 0, 0, []), (.istore 5, 5, 0, 0, [])]
def blX9_write_53 : List aIn := [(.iload 5, 5, 0, 0, []), (.aload_n 0, 0, 0, 0, []), (.getfield 23, 10, 5, 2, []), (.iload_n 1, 1, 0, 0, []), (.iaload, 0, 0, 0, []), (.if_icmp .ge 28, 89, 0, 0, [])]
def blX9_write_64 : List aIn := [(.iload_n 3, 3, 0, 0, []), (.iconst 5, 5, 0, 0, []), (.if_icmp .eq 9, 75, 0, 0, [])]
def blX9_write_69 : List aIn := [(.iload_n 3, 3, 0, 0, []), (.bipush 6, 6, 0, 0, []), (.if_icmp .ne 17, 89, 0, 0, [])]
def blX9_write_75 : List aIn := [(.aload_n 0, 0, 0, 0, []), (.iload_n 1, 1, 0, 0, []), (.iload 5, 5, 0, 0, []), (.iconst 0, 0, 0, 0, []), (.invokevirtual 149, 4, 0, 0, [])]
def blX9_write_83 : List aIn := [(.iinc 5 1, 5, 0, 0, []), (.goto (-33), 53, 0, 0, [])]
def blX9_write_89 : List aIn := [(.iload 4, 4, 0, 0, []), (.iconst 1, 1, 0, 0, []), (.isub, 0, 0, 0, []), (.istore 5, 5, 0, 0, [])]
def blX9_write_95 : List aIn := [(.iload 5, 5, 0, 0, []), (.ifCond .lt 212, 309, 0, 0, [])]
def blX9_write_100 : List aIn := [(.aload_n 0, 0, 0, 0, []), (.bipush 9, 9, 0, 0, []), (.bipush 8, 8, 0, 0, []), (.invokevirtual 134, 3, 0, 0, [])]
def blX9_write_108 : List aIn := [(.aload_n 0, 0, 0, 0, []), (.getfield 29, 10, 8, 2, []), (.sipush 560, 560, 0, 0, []), (.iaload, 0, 0, 0, []), (.istore 6, 6, 0, 0, []), (.aload_n 0, 0, 0, 0, []), (.bipush 6, 6, 0, 0, []), (.bipush 9, 9, 0, 0, []), (.invokevirtual 47, 3, 0, 0, [])]
def blX9_write_126 : List aIn := [(.iload_n 3, 3, 0, 0, []), (.iconst 5, 5, 0, 0, []), (.if_icmp .eq 9, 137, 0, 0, [])]
def blX9_write_131 : List aIn := [(.iload_n 3, 3, 0, 0, []), (.bipush 6, 6, 0, 0, []), (.if_icmp .ne 58, 192, 0, 0, [])]
def blX9_write_137 : List aIn := [(.iconst 2, 2, 0, 0, []), (.aload_n 0, 0, 0, 0, []), (.getfield 23, 10, 5, 2, []), (.iload_n 1, 1, 0, 0, []), (.iaload, 0, 0, 0, []), (.imul, 0, 0, 0, []), (.iconst 1, 1, 0, 0, []), (.isub, 0, 0, 0, []), (.iload 4, 4, 0, 0, []), (.iload 5, 5, 0, 0, []), (.isub, 0, 0, 0, []), (.isub, 0, 0, 0, []), (.istore 7, 7, 0, 0, []), (.aload_n 0, 0, 0, 0, []), (.iload_n 1, 1, 0, 0, []), (.iload 7, 7, 0, 0, []), (.iconst 2, 2, 0, 0, []), (.idiv, 0, 0, 0, []), (.aload_n 0, 0, 0, 0, []), (.iload_n 1, 1, 0, 0, []), (.iload 7, 7, 0, 0, []), (.iconst 2, 2, 0, 0, []), (.idiv, 0, 0, 0, []), (.invokevirtual 109, 3, 0, 0, [])]
def blX9_write_170 : List aIn := [(.iload 6, 6, 0, 0, []), (.iload 7, 7, 0, 0, []), (.iconst 2, 2, 0, 0, []), (.irem, 0, 0, 0, []), (.ifCond .ne 7, 183, 0, 0, [])]
def blX9_write_179 : List aIn := [(.iconst 4, 4, 0, 0, []), (.goto 4, 184, 0, 0, [])]
def blX9_write_183 : List aIn := [(.iconst 0, 0, 0, 0, [])]
def blX9_write_184 : List aIn := [(.ishl, 0, 0, 0, []), (.ior, 0, 0, 0, []), (.invokevirtual 149, 4, 0, 0, [])]
def blX9_write_189 : List aIn := [(.goto 114, 303, 0, 0, [])]
def blX9_write_192 : List aIn := [(.iload_n 3, 3, 0, 0, []), (.bipush 11, 11, 0, 0, []), (.if_icmp .ne 32, 227, 0, 0, [])]
def blX9_write_198 : List aIn := [(.aload_n 0, 0, 0, 0, []), (.iload_n 1, 1, 0, 0, []), (.iconst 2, 2, 0, 0, []), (.iload 5, 5, 0, 0, []), (.imul, 0, 0, 0, []), (.iconst 0, 0, 0, 0, []), (.invokevirtual 149, 4, 0, 0, [])]
def blX9_write_208 : List aIn := [(.aload_n 0, 0, 0, 0, []), (.iload_n 1, 1, 0, 0, []), (.iconst 2, 2, 0, 0, []), (.iload 5, 5, 0, 0, []), (.imul, 0, 0, 0, []), (.iconst 1, 1, 0, 0, []), (.iadd, 0, 0, 0, []), (.bipush 48, 48, 0, 0, []), (.iload 6, 6, 0, 0, []), (.iadd, 0, 0, 0, []), (.invokevirtual 149, 4, 0, 0, [])]
def blX9_write_224 : List aIn := [(.goto 79, 303, 0, 0, [])]
def blX9_write_227 : List aIn := [(.iload_n 3, 3, 0, 0, []), (.ifCond .ne 12, 240, 0, 0, [])]
def blX9_write_231 : List aIn := [(.iload 5, 5, 0, 0, []), (.iload 4, 4, 0, 0, []), (.iconst 1, 1, 0, 0, []), (.isub, 0, 0, 0, []), (.if_icmp .eq 13, 250, 0, 0, [])]
def blX9_write_240 : List aIn := [(.iload_n 3, 3, 0, 0, []), (.iconst 1, 1, 0, 0, []), (.if_icmp .ne 12, 254, 0, 0, [])]
def blX9_write_245 : List aIn := [(.iload 5, 5, 0, 0, []), (.ifCond .ne 7, 254, 0, 0, [])]
def blX9_write_250 : List aIn := [(.iconst 1, 1, 0, 0, []), (.goto 4, 255, 0, 0, [])]
def blX9_write_254 : List aIn := [(.iconst 0, 0, 0, 0, [])]
def blX9_write_255 : List aIn := [(.istore 7, 7, 0, 0, []), (.aload_n 0, 0, 0, 0, []), (.iload_n 1, 1, 0, 0, []), (.iload_n 3, 3, 0, 0, []), (.iconst 3, 3, 0, 0, []), (.if_icmp .ne 10, 271, 0, 0, [])]
def blX9_write_264 : List aIn := [(.iload 5, 5, 0, 0, []), (.iconst 1, 1, 0, 0, []), (.iadd, 0, 0, 0, []), (.goto 5, 273, 0, 0, [])]
def blX9_write_271 : List aIn := [(.iload 5, 5, 0, 0, [])]
def blX9_write_273 : List aIn := [(.iload 7, 7, 0, 0, []), (.ifCond .eq 19, 294, 0, 0, [])]
def blX9_write_278 : List aIn := [(.iload_n 2, 2, 0, 0, []), (.ifCond .ge 9, 288, 0, 0, [])]
def blX9_write_282 : List aIn := [(.sipush 208, 208, 0, 0, []), (.goto 12, 297, 0, 0, [])]
def blX9_write_288 : List aIn := [(.sipush 192, 192, 0, 0, []), (.goto 6, 297, 0, 0, [])]
def blX9_write_294 : List aIn := [(.sipush 240, 240, 0, 0, [])]
def blX9_write_297 : List aIn := [(.iload 6, 6, 0, 0, []), (.iadd, 0, 0, 0, []), (.invokevirtual 149, 4, 0, 0, [])]
def blX9_write_303 : List aIn := [(.iinc 5 (-1), 5, 0, 0, []), (.goto (-211), 95, 0, 0, [])]
def blX9_write_309 : List aIn := [(.iload_n 3, 3, 0, 0, []), (.iconst 2, 2, 0, 0, []), (.if_icmp .eq 8, 319, 0, 0, [])]
def blX9_write_314 : List aIn := [(.iload_n 3, 3, 0, 0, []), (.iconst 3, 3, 0, 0, []), (.if_icmp .ne 30, 346, 0, 0, [])]
def blX9_write_319 : List aIn := [(.aload_n 0, 0, 0, 0, []), (.iload_n 1, 1, 0, 0, []), (.iload_n 3, 3, 0, 0, []), (.iconst 2, 2, 0, 0, []), (.if_icmp .ne 8, 331, 0, 0, [])]
def blX9_write_326 : List aIn := [(.iload 4, 4, 0, 0, []), (.goto 4, 332, 0, 0, [])]
def blX9_write_331 : List aIn := [(.iconst 0, 0, 0, 0, [])]
def blX9_write_332 : List aIn := [(.iload_n 2, 2, 0, 0, []), (.ifCond .ge 8, 341, 0, 0, [])]
def blX9_write_336 : List aIn := [(.bipush 96, 96, 0, 0, []), (.goto 5, 343, 0, 0, [])]
def blX9_write_341 : List aIn := [(.bipush 78, 78, 0, 0, [])]
def blX9_write_343 : List aIn := [(.invokevirtual 149, 4, 0, 0, [])]
def blX9_write_346 : List aIn := [(.iload_n 3, 3, 0, 0, []), (.iconst 5, 5, 0, 0, []), (.if_icmp .ne 41, 389, 0, 0, [])]
def blX9_write_351 : List aIn := [(.aload_n 0, 0, 0, 0, []), (.iload_n 1, 1, 0, 0, []), (.aload_n 0, 0, 0, 0, []), (.getfield 23, 10, 5, 2, []), (.iload_n 1, 1, 0, 0, []), (.iaload, 0, 0, 0, []), (.iconst 1, 1, 0, 0, []), (.isub, 0, 0, 0, []), (.aload_n 0, 0, 0, 0, []), (.iload_n 1, 1, 0, 0, []), (.aload_n 0, 0, 0, 0, []), (.getfield 23, 10, 5, 2, []), (.iload_n 1, 1, 0, 0, []), (.iaload, 0, 0, 0, []), (.iconst 1, 1, 0, 0, []), (.isub, 0, 0, 0, []), (.invokevirtual 109, 3, 0, 0, [])]
def blX9_write_374 : List aIn := [(.iload_n 2, 2, 0, 0, []), (.ifCond .ge 8, 383, 0, 0, [])]
def blX9_write_378 : List aIn := [(.bipush 13, 13, 0, 0, []), (.goto 5, 385, 0, 0, [])]
def blX9_write_383 : List aIn := [(.bipush 12, 12, 0, 0, [])]
def blX9_write_385 : List aIn := [(.ior, 0, 0, 0, []), (.invokevirtual 149, 4, 0, 0, [])]
def blX9_write_389 : List aIn := [(.iload_n 3, 3, 0, 0, []), (.bipush 6, 6, 0, 0, []), (.if_icmp .ne 32, 424, 0, 0, [])]
def blX9_write_395 : List aIn := [(.aload_n 0, 0, 0, 0, []), (.iload_n 1, 1, 0, 0, []), (.aload_n 0, 0, 0, 0, []), (.getfield 23, 10, 5, 2, []), (.iload_n 1, 1, 0, 0, []), (.iaload, 0, 0, 0, []), (.iconst 1, 1, 0, 0, []), (.isub, 0, 0, 0, []), (.aload_n 0, 0, 0, 0, []), (.iload_n 1, 1, 0, 0, []), (.aload_n 0, 0, 0, 0, []), (.getfield 23, 10, 5, 2, []), (.iload_n 1, 1, 0, 0, []), (.iaload, 0, 0, 0, []), (.iconst 1, 1, 0, 0, []), (.isub, 0, 0, 0, []), (.invokevirtual 109, 3, 0, 0, [])]
def blX9_write_418 : List aIn := [(.bipush 15, 15, 0, 0, []), (.ior, 0, 0, 0, []), (.invokevirtual 149, 4, 0, 0, [])]
def blX9_write_424 : List aIn := [(.iload_n 3, 3, 0, 0, []), (.bipush 11, 11, 0, 0, []), (.if_icmp .eq 4, 431, 0, 0, [])]
def blX9_write_430 : List aIn := [(.return_, 0, 0, 0, [])]
def blX9_write_431 : List aIn := [(.aload_n 0, 0, 0, 0, []), (.iload_n 1, 1, 0, 0, []), (.iconst 2, 2, 0, 0, []), (.iload 4, 4, 0, 0, []), (.imul, 0, 0, 0, []), (.iconst 0, 0, 0, 0, []), (.invokevirtual 149, 4, 0, 0, [])]
def blX9_write_441 : List aIn := [(.aload_n 0, 0, 0, 0, []), (.iload_n 1, 1, 0, 0, []), (.iconst 2, 2, 0, 0, []), (.iload 4, 4, 0, 0, []), (.imul, 0, 0, 0, []), (.iconst 1, 1, 0, 0, []), (.iadd, 0, 0, 0, []), (.iload_n 2, 2, 0, 0, []), (.ifCond .ge 8, 458, 0, 0, [])]
def blX9_write_453 : List aIn := [(.bipush 45, 45, 0, 0, []), (.goto 5, 460, 0, 0, [])]
def blX9_write_458 : List aIn := [(.bipush 43, 43, 0, 0, [])]
def blX9_write_460 : List aIn := [(.invokevirtual 149, 4, 0, 0, [])]
def blX9_write_463 : List aIn := [(.return_, 0, 0, 0, [])]
def bkX9_write : List (Nat × List aIn) := [(0, blX9_write_0), (13, blX9_write_13), (19, blX9_write_19), (25, blX9_write_25), (26, blX9_write_26), (34, blX9_write_34), (42, blX9_write_42), (53, blX9_write_53), (64, blX9_write_64), (69, blX9_write_69), (75, blX9_write_75), (83, blX9_write_83), (89, blX9_write_89), (95, blX9_write_95), (100, blX9_write_100), (108, blX9_write_108), (126, blX9_write_126), (131, blX9_write_131), (137, blX9_write_137), (170, blX9_write_170), (179, blX9_write_179), (183, blX9_write_183), (184, blX9_write_184), (189, blX9_write_189), (192, blX9_write_192), (198, blX9_write_198), (208, blX9_write_208), (224, blX9_write_224), (227, blX9_write_227), (231, blX9_write_231), (240, blX9_write_240), (245, blX9_write_245), (250, blX9_write_250), (254, blX9_write_254), (255, blX9_write_255), (264, blX9_write_264), (271, blX9_write_271), (273, blX9_write_273), (278, blX9_write_278), (282, blX9_write_282), (288, blX9_write_288), (294, blX9_write_294), (297, blX9_write_297), (303, blX9_write_303), (309, blX9_write_309), (314, blX9_write_314), (319, blX9_write_319), (326, blX9_write_326), (331, blX9_write_331), (332, blX9_write_332), (336, blX9_write_336), (341, blX9_write_341), (343, blX9_write_343), (346, blX9_write_346), (351, blX9_write_351), (374, blX9_write_374), (378, blX9_write_378), (383, blX9_write_383), (385, blX9_write_385), (389, blX9_write_389), (395, blX9_write_395), (418, blX9_write_418), (424, blX9_write_424), (430, blX9_write_430), (431, blX9_write_431), (441, blX9_write_441), (453, blX9_write_453), (458, blX9_write_458), (460, blX9_write_460), (463, blX9_write_463)]
theorem bqX9_write_0 : aLook bkX9_write 0 = some blX9_write_0 := rfl
theorem bqX9_write_13 : aLook bkX9_write 13 = some blX9_write_13 := rfl
theorem bqX9_write_19 : aLook bkX9_write 19 = some blX9_write_19 := rfl
theorem bqX9_write_25 : aLook bkX9_write 25 = some blX9_write_25 := rfl
theorem bqX9_write_26 : aLook bkX9_write 26 = some blX9_write_26 := rfl
theorem bqX9_write_34 : aLook bkX9_write 34 = some blX9_write_34 := rfl
theorem bqX9_write_42 : aLook bkX9_write 42 = some blX9_write_42 := rfl
theorem bqX9_write_53 : aLook bkX9_write 53 = some blX9_write_53 := rfl
theorem bqX9_write_64 : aLook bkX9_write 64 = some blX9_write_64 := rfl
theorem bqX9_write_69 : aLook bkX9_write 69 = some blX9_write_69 := rfl
theorem bqX9_write_75 : aLook bkX9_write 75 = some blX9_write_75 := rfl
theorem bqX9_write_83 : aLook bkX9_write 83 = some blX9_write_83 := rfl
theorem bqX9_write_89 : aLook bkX9_write 89 = some blX9_write_89 := rfl
theorem bqX9_write_95 : aLook bkX9_write 95 = some blX9_write_95 := rfl
theorem bqX9_write_100 : aLook bkX9_write 100 = some blX9_write_100 := rfl
theorem bqX9_write_108 : aLook bkX9_write 108 = some blX9_write_108 := rfl
theorem bqX9_write_126 : aLook bkX9_write 126 = some blX9_write_126 := rfl
theorem bqX9_write_131 : aLook bkX9_write 131 = some blX9_write_131 := rfl
theorem bqX9_write_137 : aLook bkX9_write 137 = some blX9_write_137 := rfl
theorem bqX9_write_170 : aLook bkX9_write 170 = some blX9_write_170 := rfl
theorem bqX9_write_179 : aLook bkX9_write 179 = some blX9_write_179 := rfl
theorem bqX9_write_183 : aLook bkX9_write 183 = some blX9_write_183 := rfl
theorem bqX9_write_184 : aLook bkX9_write 184 = some blX9_write_184 := rfl
theorem bqX9_write_189 : aLook bkX9_write 189 = some blX9_write_189 := rfl
theorem bqX9_write_192 : aLook bkX9_write 192 = some blX9_write_192 := rfl
theorem bqX9_write_198 : aLook bkX9_write 198 = some blX9_write_198 := rfl
theorem bqX9_write_208 : aLook bkX9_write 208 = some blX9_write_208 := rfl
theorem bqX9_write_224 : aLook bkX9_write 224 = some blX9_write_224 := rfl
theorem bqX9_write_227 : aLook bkX9_write 227 = some blX9_write_227 := rfl
theorem bqX9_write_231 : aLook bkX9_write 231 = some blX9_write_231 := rfl
theorem bqX9_write_240 : aLook bkX9_write 240 = some blX9_write_240 := rfl
theorem bqX9_write_245 : aLook bkX9_write 245 = some blX9_write_245 := rfl
theorem bqX9_write_250 : aLook bkX9_write 250 = some blX9_write_250 := rfl
theorem bqX9_write_254 : aLook bkX9_write 254 = some blX9_write_254 := rfl
theorem bqX9_write_255 : aLook bkX9_write 255 = some blX9_write_255 := rfl
theorem bqX9_write_264 : aLook bkX9_write 264 = some blX9_write_264 := rfl
theorem bqX9_write_271 : aLook bkX9_write 271 = some blX9_write_271 := rfl
theorem bqX9_write_273 : aLook bkX9_write 273 = some blX9_write_273 := rfl
theorem bqX9_write_278 : aLook bkX9_write 278 = some blX9_write_278 := rfl
theorem bqX9_write_282 : aLook bkX9_write 282 = some blX9_write_282 := rfl
theorem bqX9_write_288 : aLook bkX9_write 288 = some blX9_write_288 := rfl
theorem bqX9_write_294 : aLook bkX9_write 294 = some blX9_write_294 := rfl
theorem bqX9_write_297 : aLook bkX9_write 297 = some blX9_write_297 := rfl
theorem bqX9_write_303 : aLook bkX9_write 303 = some blX9_write_303 := rfl
theorem bqX9_write_309 : aLook bkX9_write 309 = some blX9_write_309 := rfl
theorem bqX9_write_314 : aLook bkX9_write 314 = some blX9_write_314 := rfl
theorem bqX9_write_319 : aLook bkX9_write 319 = some blX9_write_319 := rfl
theorem bqX9_write_326 : aLook bkX9_write 326 = some blX9_write_326 := rfl
theorem bqX9_write_331 : aLook bkX9_write 331 = some blX9_write_331 := rfl
theorem bqX9_write_332 : aLook bkX9_write 332 = some blX9_write_332 := rfl
theorem bqX9_write_336 : aLook bkX9_write 336 = some blX9_write_336 := rfl
theorem bqX9_write_341 : aLook bkX9_write 341 = some blX9_write_341 := rfl
theorem bqX9_write_343 : aLook bkX9_write 343 = some blX9_write_343 := rfl
theorem bqX9_write_346 : aLook bkX9_write 346 = some blX9_write_346 := rfl
theorem bqX9_write_351 : aLook bkX9_write 351 = some blX9_write_351 := rfl
theorem bqX9_write_374 : aLook bkX9_write 374 = some blX9_write_374 := rfl
theorem bqX9_write_378 : aLook bkX9_write 378 = some blX9_write_378 := rfl
theorem bqX9_write_383 : aLook bkX9_write 383 = some blX9_write_383 := rfl
theorem bqX9_write_385 : aLook bkX9_write 385 = some blX9_write_385 := rfl
theorem bqX9_write_389 : aLook bkX9_write 389 = some blX9_write_389 := rfl
theorem bqX9_write_395 : aLook bkX9_write 395 = some blX9_write_395 := rfl
theorem bqX9_write_418 : aLook bkX9_write 418 = some blX9_write_418 := rfl
theorem bqX9_write_424 : aLook bkX9_write 424 = some blX9_write_424 := rfl
theorem bqX9_write_430 : aLook bkX9_write 430 = some blX9_write_430 := rfl
theorem bqX9_write_431 : aLook bkX9_write 431 = some blX9_write_431 := rfl
theorem bqX9_write_441 : aLook bkX9_write 441 = some blX9_write_441 := rfl
theorem bqX9_write_453 : aLook bkX9_write 453 = some blX9_write_453 := rfl
theorem bqX9_write_458 : aLook bkX9_write 458 = some blX9_write_458 := rfl
theorem bqX9_write_460 : aLook bkX9_write 460 = some blX9_write_460 := rfl
theorem bqX9_write_463 : aLook bkX9_write 463 = some blX9_write_463 := rfl
theorem boX9_write : ∀ pc is, aLook bkX9_write pc = some is → aBlk RX9 cX9_write 8 false pc is := aBks_ok (lk := lkX9) lkX9_ok (by decide +kernel)
def blX9_writeBinary_0 : List aIn := [(.iconst 1, 1, 0, 0, []), (.istore_n 3, 3, 0, 0, []), (.aload_n 0, 0, 0, 0, []), (.getfield 23, 10, 5, 2, []), (.iload_n 1, 1, 0, 0, []), (.iaload, 0, 0, 0, []), (.iconst 1, 1, 0, 0, []), (.isub, 0, 0, 0, []), (.istore 4, 4, 0, 0, [])]
def blX9_writeBinary_12 : List aIn := [(.iload 4, 4, 0, 0, []), (.ifCond .lt 89, 103, 0, 0, [])]
def blX9_writeBinary_17 : List aIn := [(.bipush 8, 8, 0, 0, []), (.aload_n 0, 0, 0, 0, []), (.getfield 23, 10, 5, 2, []), (.iload_n 1, 1, 0, 0, []), (.iaload, 0, 0, 0, []), (.iconst 1, 1, 0, 0, []), (.isub, 0, 0, 0, []), (.iload 4, 4, 0, 0, []), (.isub, 0, 0, 0, []), (.imul, 0, 0, 0, []), (.istore 5, 5, 0, 0, []), (.aload_n 0, 0, 0, 0, []), (.getfield 29, 10, 8, 2, []), (.sipush 480, 480, 0, 0, []), (.iload 5, 5, 0, 0, []), (.bipush 16, 16, 0, 0, []), (.idiv, 0, 0, 0, []), (.iadd, 0, 0, 0, []), (.iaload, 0, 0, 0, []), (.iload 5, 5, 0, 0, []), (.bipush 16, 16, 0, 0, []), (.irem, 0, 0, 0, []), (.ishr, 0, 0, 0, []), (.sipush 255, 255, 0, 0, []), (.iand, 0, 0, 0, []), (.istore 6, 6, 0, 0, []), (.iload_n 2, 2, 0, 0, []), (.ifCond .ge 14, 74, 0, 0, [])]
def blX9_writeBinary_63 : List aIn := [(.sipush 255, 255, 0, 0, []), (.iload 6, 6, 0, 0, []), (.isub, 0, 0, 0, []), (.iload_n 3, 3, 0, 0, []), (.iadd, 0, 0, 0, []), (.goto 5, 76, 0, 0, [])]
def blX9_writeBinary_74 : List aIn := [(.iload 6, 6, 0, 0, [])]
def blX9_writeBinary_76 : List aIn := [(.istore 7, 7, 0, 0, []), (.iload 7, 7, 0, 0, []), (.bipush 8, 8, 0, 0, []), (.ishr, 0, 0, 0, []), (.istore_n 3, 3, 0, 0, []), (.aload_n 0, 0, 0, 0, []), (.iload_n 1, 1, 0, 0, []), (.iload 4, 4, 0, 0, []), (.iload 7, 7, 0, 0, []), (.sipush 255, 255, 0, 0, []), (.iand, 0, 0, 0, []), (.invokevirtual 149, 4, 0, 0, [])]
def blX9_writeBinary_97 : List aIn := [(.iinc 4 (-1), 4, 0, 0, []), (.goto (-88), 12, 0, 0, [])]
def blX9_writeBinary_103 : List aIn := [(.return_, 0, 0, 0, [])]
def bkX9_writeBinary : List (Nat × List aIn) := [(0, blX9_writeBinary_0), (12, blX9_writeBinary_12), (17, blX9_writeBinary_17), (63, blX9_writeBinary_63), (74, blX9_writeBinary_74), (76, blX9_writeBinary_76), (97, blX9_writeBinary_97), (103, blX9_writeBinary_103)]
theorem bqX9_writeBinary_0 : aLook bkX9_writeBinary 0 = some blX9_writeBinary_0 := rfl
theorem bqX9_writeBinary_12 : aLook bkX9_writeBinary 12 = some blX9_writeBinary_12 := rfl
theorem bqX9_writeBinary_17 : aLook bkX9_writeBinary 17 = some blX9_writeBinary_17 := rfl
theorem bqX9_writeBinary_63 : aLook bkX9_writeBinary 63 = some blX9_writeBinary_63 := rfl
theorem bqX9_writeBinary_74 : aLook bkX9_writeBinary 74 = some blX9_writeBinary_74 := rfl
theorem bqX9_writeBinary_76 : aLook bkX9_writeBinary 76 = some blX9_writeBinary_76 := rfl
theorem bqX9_writeBinary_97 : aLook bkX9_writeBinary 97 = some blX9_writeBinary_97 := rfl
theorem bqX9_writeBinary_103 : aLook bkX9_writeBinary 103 = some blX9_writeBinary_103 := rfl
theorem boX9_writeBinary : ∀ pc is, aLook bkX9_writeBinary pc = some is → aBlk RX9 cX9_writeBinary 8 false pc is := aBks_ok (lk := lkX9) lkX9_ok (by decide +kernel)
def blX9_storeFloat_0 : List aIn := [(.aload_n 0, 0, 0, 0, []), (.getfield 13, 10, 2, 2, []), (.iload_n 1, 1, 0, 0, []), (.iaload, 0, 0, 0, []), (.bipush 10, 10, 0, 0, []), (.if_icmp .ne 7, 15, 0, 0, [])]
def blX9_storeFloat_11 : List aIn := [(.iconst 1, 1, 0, 0, []), (.goto 4, 16, 0, 0, [])]
def blX9_storeFloat_15 : List aIn := [(.iconst 0, 0, 0, 0, [])]
def blX9_storeFloat_16 : List aIn := [(.istore_n 3, 3, 0, 0, []), (.iload_n 3, 3, 0, 0, []), (.ifCond .eq 8, 26, 0, 0, [])]
def blX9_storeFloat_21 : List aIn := [(.bipush 53, 53, 0, 0, []), (.goto 5, 28, 0, 0, [])]
def blX9_storeFloat_26 : List aIn := [(.bipush 24, 24, 0, 0, [])]
def blX9_storeFloat_28 : List aIn := [(.istore 4, 4, 0, 0, []), (.aload_n 0, 0, 0, 0, []), (.iload 4, 4, 0, 0, []), (.invokevirtual 153, 2, 0, 0, [])]
def blX9_storeFloat_36 : List aIn := [(.iload_n 2, 2, 0, 0, []), (.ifCond .eq 12, 49, 0, 0, [])]
def blX9_storeFloat_40 : List aIn := [(.aload_n 0, 0, 0, 0, []), (.getfield 156, 10, 13, 1, []), (.ifCond .ne 5, 49, 0, 0, [])]
def blX9_storeFloat_47 : List aIn := [(.iconst 0, 0, 0, 0, []), (.ireturn, 0, 0, 0, [])]
def blX9_storeFloat_49 : List aIn := [(.aload_n 0, 0, 0, 0, []), (.bipush 6, 6, 0, 0, []), (.iconst 4, 4, 0, 0, []), (.invokevirtual 47, 3, 0, 0, [])]
def blX9_storeFloat_56 : List aIn := [(.aload_n 0, 0, 0, 0, []), (.iconst 5, 5, 0, 0, []), (.iconst 1, 1, 0, 0, []), (.invokevirtual 85, 3, 0, 0, [])]
def blX9_storeFloat_62 : List aIn := [(.aload_n 0, 0, 0, 0, []), (.getfield 160, 10, 12, 0, []), (.ifCond .le 31, 97, 0, 0, [])]
def blX9_storeFloat_69 : List aIn := [(.aload_n 0, 0, 0, 0, []), (.iconst 4, 4, 0, 0, []), (.aload_n 0, 0, 0, 0, []), (.getfield 160, 10, 12, 0, []), (.sipush 400, 400, 0, 0, []), (.if_icmp .le 9, 87, 0, 0, [])]
def blX9_storeFloat_81 : List aIn := [(.sipush 400, 400, 0, 0, []), (.goto 7, 91, 0, 0, [])]
def blX9_storeFloat_87 : List aIn := [(.aload_n 0, 0, 0, 0, []), (.getfield 160, 10, 12, 0, [])]
def blX9_storeFloat_91 : List aIn := [(.invokevirtual 118, 3, 0, 0, [])]
def blX9_storeFloat_94 : List aIn := [(.goto 32, 126, 0, 0, [])]
def blX9_storeFloat_97 : List aIn := [(.aload_n 0, 0, 0, 0, []), (.iconst 5, 5, 0, 0, []), (.iconst 0, 0, 0, 0, []), (.aload_n 0, 0, 0, 0, []), (.getfield 160, 10, 12, 0, []), (.isub, 0, 0, 0, []), (.sipush 600, 600, 0, 0, []), (.if_icmp .le 9, 117, 0, 0, [])]
def blX9_storeFloat_111 : List aIn := [(.sipush 600, 600, 0, 0, []), (.goto 9, 123, 0, 0, [])]
def blX9_storeFloat_117 : List aIn := [(.iconst 0, 0, 0, 0, []), (.aload_n 0, 0, 0, 0, []), (.getfield 160, 10, 12, 0, []), (.isub, 0, 0, 0, [])]
def blX9_storeFloat_123 : List aIn := [(.invokevirtual 118, 3, 0, 0, [])]
def blX9_storeFloat_126 : List aIn := [(.aload_n 0, 0, 0, 0, []), (.iconst 5, 5, 0, 0, []), (.bipush 9, 9, 0, 0, []), (.invokevirtual 47, 3, 0, 0, [])]
def blX9_storeFloat_133 : List aIn := [(.aload_n 0, 0, 0, 0, []), (.bipush 9, 9, 0, 0, []), (.bipush 31, 31, 0, 0, []), (.invokevirtual 103, 3, 0, 0, [])]
def blX9_storeFloat_141 : List aIn := [(.aload_n 0, 0, 0, 0, []), (.iconst 4, 4, 0, 0, []), (.invokevirtual 106, 2, 0, 0, [])]
def blX9_storeFloat_146 : List aIn := [(.ifCond .ne 15, 161, 0, 0, [])]
def blX9_storeFloat_149 : List aIn := [(.aload_n 0, 0, 0, 0, []), (.iconst 4, 4, 0, 0, []), (.bipush 9, 9, 0, 0, []), (.invokevirtual 58, 3, 0, 0, [])]
def blX9_storeFloat_156 : List aIn := [(.ifCond .lt 5, 161, 0, 0, [])]
def blX9_storeFloat_159 : List aIn := [(.iconst 0, 0, 0, 0, []), (.ireturn, 0, 0, 0, [])]
def blX9_storeFloat_161 : List aIn := [(.aload_n 0, 0, 0, 0, []), (.iconst 4, 4, 0, 0, []), (.invokevirtual 106, 2, 0, 0, [])]
def blX9_storeFloat_166 : List aIn := [(.ifCond .ne 28, 194, 0, 0, [])]
def blX9_storeFloat_169 : List aIn := [(.aload_n 0, 0, 0, 0, []), (.iconst 4, 4, 0, 0, []), (.iconst 5, 5, 0, 0, []), (.invokevirtual 121, 3, 0, 0, [])]
def blX9_storeFloat_175 : List aIn := [(.ifCond .ne 19, 194, 0, 0, [])]
def blX9_storeFloat_178 : List aIn := [(.iload_n 2, 2, 0, 0, []), (.ifCond .eq 5, 184, 0, 0, [])]
def blX9_storeFloat_182 : List aIn := [(.iconst 0, 0, 0, 0, []), (.ireturn, 0, 0, 0, [])]
def blX9_storeFloat_184 : List aIn := [(.aload_n 0, 0, 0, 0, []), (.iconst 4, 4, 0, 0, []), (.invokevirtual 36, 2, 0, 0, [])]
def blX9_storeFloat_189 : List aIn := [(.aload_n 0, 0, 0, 0, []), (.iconst 0, 0, 0, 0, []), (.putfield 156, 10, 13, 1, [])]
def blX9_storeFloat_194 : List aIn := [(.aload_n 0, 0, 0, 0, []), (.iconst 4, 4, 0, 0, []), (.invokevirtual 106, 2, 0, 0, [])]
def blX9_storeFloat_199 : List aIn := [(.ifCond .eq 44, 243, 0, 0, [])]
def blX9_storeFloat_202 : List aIn := [(.iconst 0, 0, 0, 0, []), (.istore 5, 5, 0, 0, [])]
def blX9_storeFloat_205 : List aIn := [(.iload 5, 5, 0, 0, []), (.aload_n 0, 0, 0, 0, []), (.getfield 23, 10, 5, 2, []), (.iload_n 1, 1, 0, 0, []), (.iaload, 0, 0, 0, []), (.if_icmp .ge 17, 230, 0, 0, [])]
def blX9_storeFloat_216 : List aIn := [(.aload_n 0, 0, 0, 0, []), (.iload_n 1, 1, 0, 0, []), (.iload 5, 5, 0, 0, []), (.iconst 0, 0, 0, 0, []), (.invokevirtual 149, 4, 0, 0, [])]
def blX9_storeFloat_224 : List aIn := [(.iinc 5 1, 5, 0, 0, []), (.goto (-22), 205, 0, 0, [])]
def blX9_storeFloat_230 : List aIn := [(.aload_n 0, 0, 0, 0, []), (.getfield 156, 10, 13, 1, []), (.ifCond .eq 7, 241, 0, 0, [])]
def blX9_storeFloat_237 : List aIn := [(.iconst 1, 1, 0, 0, []), (.goto 4, 242, 0, 0, [])]
def blX9_storeFloat_241 : List aIn := [(.iconst 2, 2, 0, 0, [])]
def blX9_storeFloat_242 : List aIn := [(.ireturn, 0, 0, 0, [])]
def blX9_storeFloat_243 : List aIn := [(.aload_n 0, 0, 0, 0, []), (.getfield 160, 10, 12, 0, []), (.iload_n 3, 3, 0, 0, []), (.ifCond .eq 9, 257, 0, 0, [])]
def blX9_storeFloat_251 : List aIn := [(.sipush 1075, 1075, 0, 0, []), (.goto 6, 260, 0, 0, [])]
def blX9_storeFloat_257 : List aIn := [(.sipush 150, 150, 0, 0, [])]
def blX9_storeFloat_260 : List aIn := [(.iadd, 0, 0, 0, []), (.istore 5, 5, 0, 0, []), (.aload_n 0, 0, 0, 0, []), (.getfield 127, 10, 11, 0, []), (.ifCond .ge 19, 286, 0, 0, [])]
def blX9_storeFloat_270 : List aIn := [(.iconst 1, 1, 0, 0, []), (.iload_n 3, 3, 0, 0, []), (.ifCond .eq 8, 280, 0, 0, [])]
def blX9_storeFloat_275 : List aIn := [(.bipush 11, 11, 0, 0, []), (.goto 5, 282, 0, 0, [])]
def blX9_storeFloat_280 : List aIn := [(.bipush 8, 8, 0, 0, [])]
def blX9_storeFloat_282 : List aIn := [(.ishl, 0, 0, 0, []), (.goto 4, 287, 0, 0, [])]
def blX9_storeFloat_286 : List aIn := [(.iconst 0, 0, 0, 0, [])]
def blX9_storeFloat_287 : List aIn := [(.iload 5, 5, 0, 0, []), (.ior, 0, 0, 0, []), (.istore 6, 6, 0, 0, []), (.aload_n 0, 0, 0, 0, []), (.getfield 23, 10, 5, 2, []), (.iload_n 1, 1, 0, 0, []), (.iaload, 0, 0, 0, []), (.iconst 1, 1, 0, 0, []), (.isub, 0, 0, 0, []), (.istore 7, 7, 0, 0, [])]
def blX9_storeFloat_302 : List aIn := [(.iload 7, 7, 0, 0, []), (.ifCond .lt 56, 360, 0, 0, [])]
def blX9_storeFloat_307 : List aIn := [(.bipush 8, 8, 0, 0, []), (.aload_n 0, 0, 0, 0, []), (.getfield 23, 10, 5, 2, []), (.iload_n 1, 1, 0, 0, []), (.iaload, 0, 0, 0, []), (.iconst 1, 1, 0, 0, []), (.isub, 0, 0, 0, []), (.iload 7, 7, 0, 0, []), (.isub, 0, 0, 0, []), (.imul, 0, 0, 0, []), (.istore 8, 8, 0, 0, []), (.aload_n 0, 0, 0, 0, []), (.iload_n 1, 1, 0, 0, []), (.iload 7, 7, 0, 0, []), (.aload_n 0, 0, 0, 0, []), (.getfield 29, 10, 8, 2, []), (.sipush 480, 480, 0, 0, []), (.iload 8, 8, 0, 0, []), (.bipush 16, 16, 0, 0, []), (.idiv, 0, 0, 0, []), (.iadd, 0, 0, 0, []), (.iaload, 0, 0, 0, []), (.iload 8, 8, 0, 0, []), (.bipush 16, 16, 0, 0, []), (.irem, 0, 0, 0, []), (.ishr, 0, 0, 0, []), (.sipush 255, 255, 0, 0, []), (.iand, 0, 0, 0, []), (.invokevirtual 149, 4, 0, 0, [])]
def blX9_storeFloat_354 : List aIn := [(.iinc 7 (-1), 7, 0, 0, []), (.goto (-55), 302, 0, 0, [])]
def blX9_storeFloat_360 : List aIn := [(.iload_n 3, 3, 0, 0, []), (.ifCond .eq 39, 400, 0, 0, [])]
def blX9_storeFloat_364 : List aIn := [(.aload_n 0, 0, 0, 0, []), (.iload_n 1, 1, 0, 0, []), (.iconst 1, 1, 0, 0, []), (.aload_n 0, 0, 0, 0, []), (.iload_n 1, 1, 0, 0, []), (.iconst 1, 1, 0, 0, []), (.invokevirtual 109, 3, 0, 0, [])]
def blX9_storeFloat_373 : List aIn := [(.bipush 15, 15, 0, 0, []), (.iand, 0, 0, 0, []), (.iload 6, 6, 0, 0, []), (.bipush 15, 15, 0, 0, []), (.iand, 0, 0, 0, []), (.iconst 4, 4, 0, 0, []), (.ishl, 0, 0, 0, []), (.ior, 0, 0, 0, []), (.invokevirtual 149, 4, 0, 0, [])]
def blX9_storeFloat_387 : List aIn := [(.aload_n 0, 0, 0, 0, []), (.iload_n 1, 1, 0, 0, []), (.iconst 0, 0, 0, 0, []), (.iload 6, 6, 0, 0, []), (.iconst 4, 4, 0, 0, []), (.ishr, 0, 0, 0, []), (.invokevirtual 149, 4, 0, 0, [])]
def blX9_storeFloat_397 : List aIn := [(.goto 36, 433, 0, 0, [])]
def blX9_storeFloat_400 : List aIn := [(.aload_n 0, 0, 0, 0, []), (.iload_n 1, 1, 0, 0, []), (.iconst 1, 1, 0, 0, []), (.aload_n 0, 0, 0, 0, []), (.iload_n 1, 1, 0, 0, []), (.iconst 1, 1, 0, 0, []), (.invokevirtual 109, 3, 0, 0, [])]
def blX9_storeFloat_409 : List aIn := [(.bipush 127, 127, 0, 0, []), (.iand, 0, 0, 0, []), (.iload 6, 6, 0, 0, []), (.iconst 1, 1, 0, 0, []), (.iand, 0, 0, 0, []), (.bipush 7, 7, 0, 0, []), (.ishl, 0, 0, 0, []), (.ior, 0, 0, 0, []), (.invokevirtual 149, 4, 0, 0, [])]
def blX9_storeFloat_423 : List aIn := [(.aload_n 0, 0, 0, 0, []), (.iload_n 1, 1, 0, 0, []), (.iconst 0, 0, 0, 0, []), (.iload 6, 6, 0, 0, []), (.iconst 1, 1, 0, 0, []), (.ishr, 0, 0, 0, []), (.invokevirtual 149, 4, 0, 0, [])]
def blX9_storeFloat_433 : List aIn := [(.aload_n 0, 0, 0, 0, []), (.getfield 156, 10, 13, 1, []), (.ifCond .eq 7, 444, 0, 0, [])]
def blX9_storeFloat_440 : List aIn := [(.iconst 1, 1, 0, 0, []), (.goto 4, 445, 0, 0, [])]
def blX9_storeFloat_444 : List aIn := [(.iconst 2, 2, 0, 0, [])]
def blX9_storeFloat_445 : List aIn := [(.ireturn, 0, 0, 0, [])]
def bkX9_storeFloat : List (Nat × List aIn) := [(0, blX9_storeFloat_0), (11, blX9_storeFloat_11), (15, blX9_storeFloat_15), (16, blX9_storeFloat_16), (21, blX9_storeFloat_21), (26, blX9_storeFloat_26), (28, blX9_storeFloat_28), (36, blX9_storeFloat_36), (40, blX9_storeFloat_40), (47, blX9_storeFloat_47), (49, blX9_storeFloat_49), (56, blX9_storeFloat_56), (62, blX9_storeFloat_62), (69, blX9_storeFloat_69), (81, blX9_storeFloat_81), (87, blX9_storeFloat_87), (91, blX9_storeFloat_91), (94, blX9_storeFloat_94), (97, blX9_storeFloat_97), (111, blX9_storeFloat_111), (117, blX9_storeFloat_117), (123, blX9_storeFloat_123), (126, blX9_storeFloat_126), (133, blX9_storeFloat_133), (141, blX9_storeFloat_141), (146, blX9_storeFloat_146), (149, blX9_storeFloat_149), (156, blX9_storeFloat_156), (159, blX9_storeFloat_159), (161, blX9_storeFloat_161), (166, blX9_storeFloat_166), (169, blX9_storeFloat_169), (175, blX9_storeFloat_175), (178, blX9_storeFloat_178), (182, blX9_storeFloat_182), (184, blX9_storeFloat_184), (189, blX9_storeFloat_189), (194, blX9_storeFloat_194), (199, blX9_storeFloat_199), (202, blX9_storeFloat_202), (205, blX9_storeFloat_205), (216, blX9_storeFloat_216), (224, blX9_storeFloat_224), (230, blX9_storeFloat_230), (237, blX9_storeFloat_237), (241, blX9_storeFloat_241), (242, blX9_storeFloat_242), (243, blX9_storeFloat_243), (251, blX9_storeFloat_251), (257, blX9_storeFloat_257), (260, blX9_storeFloat_260), (270, blX9_storeFloat_270), (275, blX9_storeFloat_275), (280, blX9_storeFloat_280), (282, blX9_storeFloat_282), (286, blX9_storeFloat_286), (287, blX9_storeFloat_287), (302, blX9_storeFloat_302), (307, blX9_storeFloat_307), (354, blX9_storeFloat_354), (360, blX9_storeFloat_360), (364, blX9_storeFloat_364), (373, blX9_storeFloat_373), (387, blX9_storeFloat_387), (397, blX9_storeFloat_397), (400, blX9_storeFloat_400), (409, blX9_storeFloat_409), (423, blX9_storeFloat_423), (433, blX9_storeFloat_433), (440, blX9_storeFloat_440), (444, blX9_storeFloat_444), (445, blX9_storeFloat_445)]
theorem bqX9_storeFloat_0 : aLook bkX9_storeFloat 0 = some blX9_storeFloat_0 := rfl
theorem bqX9_storeFloat_11 : aLook bkX9_storeFloat 11 = some blX9_storeFloat_11 := rfl
theorem bqX9_storeFloat_15 : aLook bkX9_storeFloat 15 = some blX9_storeFloat_15 := rfl
theorem bqX9_storeFloat_16 : aLook bkX9_storeFloat 16 = some blX9_storeFloat_16 := rfl
theorem bqX9_storeFloat_21 : aLook bkX9_storeFloat 21 = some blX9_storeFloat_21 := rfl
theorem bqX9_storeFloat_26 : aLook bkX9_storeFloat 26 = some blX9_storeFloat_26 := rfl
theorem bqX9_storeFloat_28 : aLook bkX9_storeFloat 28 = some blX9_storeFloat_28 := rfl
theorem bqX9_storeFloat_36 : aLook bkX9_storeFloat 36 = some blX9_storeFloat_36 := rfl
theorem bqX9_storeFloat_40 : aLook bkX9_storeFloat 40 = some blX9_storeFloat_40 := rfl
theorem bqX9_storeFloat_47 : aLook bkX9_storeFloat 47 = some blX9_storeFloat_47 := rfl
theorem bqX9_storeFloat_49 : aLook bkX9_storeFloat 49 = some blX9_storeFloat_49 := rfl
theorem bqX9_storeFloat_56 : aLook bkX9_storeFloat 56 = some blX9_storeFloat_56 := rfl
theorem bqX9_storeFloat_62 : aLook bkX9_storeFloat 62 = some blX9_storeFloat_62 := rfl
theorem bqX9_storeFloat_69 : aLook bkX9_storeFloat 69 = some blX9_storeFloat_69 := rfl
theorem bqX9_storeFloat_81 : aLook bkX9_storeFloat 81 = some blX9_storeFloat_81 := rfl
theorem bqX9_storeFloat_87 : aLook bkX9_storeFloat 87 = some blX9_storeFloat_87 := rfl
theorem bqX9_storeFloat_91 : aLook bkX9_storeFloat 91 = some blX9_storeFloat_91 := rfl
theorem bqX9_storeFloat_94 : aLook bkX9_storeFloat 94 = some blX9_storeFloat_94 := rfl
theorem bqX9_storeFloat_97 : aLook bkX9_storeFloat 97 = some blX9_storeFloat_97 := rfl
theorem bqX9_storeFloat_111 : aLook bkX9_storeFloat 111 = some blX9_storeFloat_111 := rfl
theorem bqX9_storeFloat_117 : aLook bkX9_storeFloat 117 = some blX9_storeFloat_117 := rfl
theorem bqX9_storeFloat_123 : aLook bkX9_storeFloat 123 = some blX9_storeFloat_123 := rfl
theorem bqX9_storeFloat_126 : aLook bkX9_storeFloat 126 = some blX9_storeFloat_126 := rfl
theorem bqX9_storeFloat_133 : aLook bkX9_storeFloat 133 = some blX9_storeFloat_133 := rfl
theorem bqX9_storeFloat_141 : aLook bkX9_storeFloat 141 = some blX9_storeFloat_141 := rfl
theorem bqX9_storeFloat_146 : aLook bkX9_storeFloat 146 = some blX9_storeFloat_146 := rfl
theorem bqX9_storeFloat_149 : aLook bkX9_storeFloat 149 = some blX9_storeFloat_149 := rfl
theorem bqX9_storeFloat_156 : aLook bkX9_storeFloat 156 = some blX9_storeFloat_156 := rfl
theorem bqX9_storeFloat_159 : aLook bkX9_storeFloat 159 = some blX9_storeFloat_159 := rfl
theorem bqX9_storeFloat_161 : aLook bkX9_storeFloat 161 = some blX9_storeFloat_161 := rfl
theorem bqX9_storeFloat_166 : aLook bkX9_storeFloat 166 = some blX9_storeFloat_166 := rfl
theorem bqX9_storeFloat_169 : aLook bkX9_storeFloat 169 = some blX9_storeFloat_169 := rfl
theorem bqX9_storeFloat_175 : aLook bkX9_storeFloat 175 = some blX9_storeFloat_175 := rfl
theorem bqX9_storeFloat_178 : aLook bkX9_storeFloat 178 = some blX9_storeFloat_178 := rfl
theorem bqX9_storeFloat_182 : aLook bkX9_storeFloat 182 = some blX9_storeFloat_182 := rfl
theorem bqX9_storeFloat_184 : aLook bkX9_storeFloat 184 = some blX9_storeFloat_184 := rfl
theorem bqX9_storeFloat_189 : aLook bkX9_storeFloat 189 = some blX9_storeFloat_189 := rfl
theorem bqX9_storeFloat_194 : aLook bkX9_storeFloat 194 = some blX9_storeFloat_194 := rfl
theorem bqX9_storeFloat_199 : aLook bkX9_storeFloat 199 = some blX9_storeFloat_199 := rfl
theorem bqX9_storeFloat_202 : aLook bkX9_storeFloat 202 = some blX9_storeFloat_202 := rfl
theorem bqX9_storeFloat_205 : aLook bkX9_storeFloat 205 = some blX9_storeFloat_205 := rfl
theorem bqX9_storeFloat_216 : aLook bkX9_storeFloat 216 = some blX9_storeFloat_216 := rfl
theorem bqX9_storeFloat_224 : aLook bkX9_storeFloat 224 = some blX9_storeFloat_224 := rfl
theorem bqX9_storeFloat_230 : aLook bkX9_storeFloat 230 = some blX9_storeFloat_230 := rfl
theorem bqX9_storeFloat_237 : aLook bkX9_storeFloat 237 = some blX9_storeFloat_237 := rfl
theorem bqX9_storeFloat_241 : aLook bkX9_storeFloat 241 = some blX9_storeFloat_241 := rfl
theorem bqX9_storeFloat_242 : aLook bkX9_storeFloat 242 = some blX9_storeFloat_242 := rfl
theorem bqX9_storeFloat_243 : aLook bkX9_storeFloat 243 = some blX9_storeFloat_243 := rfl
theorem bqX9_storeFloat_251 : aLook bkX9_storeFloat 251 = some blX9_storeFloat_251 := rfl
theorem bqX9_storeFloat_257 : aLook bkX9_storeFloat 257 = some blX9_storeFloat_257 := rfl
theorem bqX9_storeFloat_260 : aLook bkX9_storeFloat 260 = some blX9_storeFloat_260 := rfl
theorem bqX9_storeFloat_270 : aLook bkX9_storeFloat 270 = some blX9_storeFloat_270 := rfl
theorem bqX9_storeFloat_275 : aLook bkX9_storeFloat 275 = some blX9_storeFloat_275 := rfl
theorem bqX9_storeFloat_280 : aLook bkX9_storeFloat 280 = some blX9_storeFloat_280 := rfl
theorem bqX9_storeFloat_282 : aLook bkX9_storeFloat 282 = some blX9_storeFloat_282 := rfl
theorem bqX9_storeFloat_286 : aLook bkX9_storeFloat 286 = some blX9_storeFloat_286 := rfl
theorem bqX9_storeFloat_287 : aLook bkX9_storeFloat 287 = some blX9_storeFloat_287 := rfl
theorem bqX9_storeFloat_302 : aLook bkX9_storeFloat 302 = some blX9_storeFloat_302 := rfl
theorem bqX9_storeFloat_307 : aLook bkX9_storeFloat 307 = some blX9_storeFloat_307 := rfl
theorem bqX9_storeFloat_354 : aLook bkX9_storeFloat 354 = some blX9_storeFloat_354 := rfl
theorem bqX9_storeFloat_360 : aLook bkX9_storeFloat 360 = some blX9_storeFloat_360 := rfl
theorem bqX9_storeFloat_364 : aLook bkX9_storeFloat 364 = some blX9_storeFloat_364 := rfl
theorem bqX9_storeFloat_373 : aLook bkX9_storeFloat 373 = some blX9_storeFloat_373 := rfl
theorem bqX9_storeFloat_387 : aLook bkX9_storeFloat 387 = some blX9_storeFloat_387 := rfl
theorem bqX9_storeFloat_397 : aLook bkX9_storeFloat 397 = some blX9_storeFloat_397 := rfl
theorem bqX9_storeFloat_400 : aLook bkX9_storeFloat 400 = some blX9_storeFloat_400 := rfl
theorem bqX9_storeFloat_409 : aLook bkX9_storeFloat 409 = some blX9_storeFloat_409 := rfl
theorem bqX9_storeFloat_423 : aLook bkX9_storeFloat 423 = some blX9_storeFloat_423 := rfl
theorem bqX9_storeFloat_433 : aLook bkX9_storeFloat 433 = some blX9_storeFloat_433 := rfl
theorem bqX9_storeFloat_440 : aLook bkX9_storeFloat 440 = some blX9_storeFloat_440 := rfl
theorem bqX9_storeFloat_444 : aLook bkX9_storeFloat 444 = some blX9_storeFloat_444 := rfl
theorem bqX9_storeFloat_445 : aLook bkX9_storeFloat 445 = some blX9_storeFloat_445 := rfl
theorem boX9_storeFloat : ∀ pc is, aLook bkX9_storeFloat pc = some is → aBlk RX9 cX9_storeFloat 9 false pc is := aBks_ok (lk := lkX9) lkX9_ok (by decide +kernel)
def blX9_nearest_0 : List aIn := [(.aload_n 0, 0, 0, 0, []), (.iconst 1, 1, 0, 0, []), (.putfield 156, 10, 13, 1, []), (.aload_n 0, 0, 0, 0, []), (.iconst 0, 0, 0, 0, []), (.putfield 160, 10, 12, 0, []), (.aload_n 0, 0, 0, 0, []), (.bipush 6, 6, 0, 0, []), (.invokevirtual 36, 2, 0, 0, [])]
def blX9_nearest_16 : List aIn := [(.aload_n 0, 0, 0, 0, []), (.iconst 4, 4, 0, 0, []), (.invokevirtual 106, 2, 0, 0, [])]
def blX9_nearest_21 : List aIn := [(.ifCond .eq 4, 25, 0, 0, [])]
def blX9_nearest_24 : List aIn := [(.return_, 0, 0, 0, [])]
def blX9_nearest_25 : List aIn := [(.aload_n 0, 0, 0, 0, []), (.aload_n 0, 0, 0, 0, []), (.iconst 4, 4, 0, 0, []), (.invokevirtual 54, 2, 0, 0, [])]
def blX9_nearest_31 : List aIn := [(.aload_n 0, 0, 0, 0, []), (.iconst 5, 5, 0, 0, []), (.invokevirtual 54, 2, 0, 0, [])]
def blX9_nearest_36 : List aIn := [(.isub, 0, 0, 0, []), (.iload_n 1, 1, 0, 0, []), (.isub, 0, 0, 0, []), (.putfield 160, 10, 12, 0, []), (.iconst 1, 1, 0, 0, []), (.istore_n 2, 2, 0, 0, [])]
def blX9_nearest_44 : List aIn := [(.iload_n 2, 2, 0, 0, []), (.ifCond .eq 122, 167, 0, 0, [])]
def blX9_nearest_48 : List aIn := [(.aload_n 0, 0, 0, 0, []), (.iconst 4, 4, 0, 0, []), (.bipush 9, 9, 0, 0, []), (.invokevirtual 47, 3, 0, 0, [])]
def blX9_nearest_55 : List aIn := [(.aload_n 0, 0, 0, 0, []), (.iconst 5, 5, 0, 0, []), (.bipush 10, 10, 0, 0, []), (.invokevirtual 47, 3, 0, 0, [])]
def blX9_nearest_62 : List aIn := [(.aload_n 0, 0, 0, 0, []), (.getfield 160, 10, 12, 0, []), (.ifCond .le 16, 82, 0, 0, [])]
def blX9_nearest_69 : List aIn := [(.aload_n 0, 0, 0, 0, []), (.bipush 10, 10, 0, 0, []), (.aload_n 0, 0, 0, 0, []), (.getfield 160, 10, 12, 0, []), (.invokevirtual 118, 3, 0, 0, [])]
def blX9_nearest_79 : List aIn := [(.goto 15, 94, 0, 0, [])]
def blX9_nearest_82 : List aIn := [(.aload_n 0, 0, 0, 0, []), (.bipush 9, 9, 0, 0, []), (.iconst 0, 0, 0, 0, []), (.aload_n 0, 0, 0, 0, []), (.getfield 160, 10, 12, 0, []), (.isub, 0, 0, 0, []), (.invokevirtual 118, 3, 0, 0, [])]
def blX9_nearest_94 : List aIn := [(.aload_n 0, 0, 0, 0, []), (.bipush 9, 9, 0, 0, []), (.bipush 10, 10, 0, 0, []), (.invokevirtual 134, 3, 0, 0, [])]
def blX9_nearest_102 : List aIn := [(.aload_n 0, 0, 0, 0, []), (.bipush 6, 6, 0, 0, []), (.invokevirtual 54, 2, 0, 0, [])]
def blX9_nearest_108 : List aIn := [(.iload_n 1, 1, 0, 0, []), (.if_icmp .eq 7, 116, 0, 0, [])]
def blX9_nearest_112 : List aIn := [(.iconst 1, 1, 0, 0, []), (.goto 4, 117, 0, 0, [])]
def blX9_nearest_116 : List aIn := [(.iconst 0, 0, 0, 0, [])]
def blX9_nearest_117 : List aIn := [(.istore_n 2, 2, 0, 0, []), (.aload_n 0, 0, 0, 0, []), (.aload_n 0, 0, 0, 0, []), (.bipush 6, 6, 0, 0, []), (.invokevirtual 54, 2, 0, 0, [])]
def blX9_nearest_125 : List aIn := [(.iload_n 1, 1, 0, 0, []), (.if_icmp .le 12, 138, 0, 0, [])]
def blX9_nearest_129 : List aIn := [(.aload_n 0, 0, 0, 0, []), (.getfield 160, 10, 12, 0, []), (.iconst 1, 1, 0, 0, []), (.iadd, 0, 0, 0, []), (.goto 26, 161, 0, 0, [])]
def blX9_nearest_138 : List aIn := [(.aload_n 0, 0, 0, 0, []), (.bipush 6, 6, 0, 0, []), (.invokevirtual 54, 2, 0, 0, [])]
def blX9_nearest_144 : List aIn := [(.iload_n 1, 1, 0, 0, []), (.if_icmp .ge 12, 157, 0, 0, [])]
def blX9_nearest_148 : List aIn := [(.aload_n 0, 0, 0, 0, []), (.getfield 160, 10, 12, 0, []), (.iconst 1, 1, 0, 0, []), (.isub, 0, 0, 0, []), (.goto 7, 161, 0, 0, [])]
def blX9_nearest_157 : List aIn := [(.aload_n 0, 0, 0, 0, []), (.getfield 160, 10, 12, 0, [])]
def blX9_nearest_161 : List aIn := [(.putfield 160, 10, 12, 0, []), (.goto (-120), 44, 0, 0, [])]
def blX9_nearest_167 : List aIn := [(.aload_n 0, 0, 0, 0, []), (.aload_n 0, 0, 0, 0, []), (.bipush 7, 7, 0, 0, []), (.invokevirtual 106, 2, 0, 0, [])]
def blX9_nearest_174 : List aIn := [(.putfield 156, 10, 13, 1, []), (.aload_n 0, 0, 0, 0, []), (.getfield 156, 10, 13, 1, []), (.ifCond .ne 20, 201, 0, 0, [])]
def blX9_nearest_184 : List aIn := [(.aload_n 0, 0, 0, 0, []), (.iconst 2, 2, 0, 0, []), (.bipush 10, 10, 0, 0, []), (.invokevirtual 137, 3, 0, 0, [])]
def blX9_nearest_191 : List aIn := [(.ifCond .eq 10, 201, 0, 0, [])]
def blX9_nearest_194 : List aIn := [(.aload_n 0, 0, 0, 0, []), (.bipush 6, 6, 0, 0, []), (.iconst 1, 1, 0, 0, []), (.invokevirtual 82, 3, 0, 0, [])]
def blX9_nearest_201 : List aIn := [(.aload_n 0, 0, 0, 0, []), (.bipush 6, 6, 0, 0, []), (.invokevirtual 54, 2, 0, 0, [])]
def blX9_nearest_207 : List aIn := [(.iload_n 1, 1, 0, 0, []), (.if_icmp .ne 4, 212, 0, 0, [])]
def blX9_nearest_211 : List aIn := [(.return_, 0, 0, 0, [])]
def blX9_nearest_212 : List aIn := [(.aload_n 0, 0, 0, 0, []), (.bipush 6, 6, 0, 0, []), (.iconst 1, 1, 0, 0, []), (.invokevirtual 85, 3, 0, 0, [])]
def blX9_nearest_219 : List aIn := [(.aload_n 0, 0, 0, 0, []), (.bipush 6, 6, 0, 0, []), (.iload_n 1, 1, 0, 0, []), (.iconst 1, 1, 0, 0, []), (.isub, 0, 0, 0, []), (.invokevirtual 118, 3, 0, 0, [])]
def blX9_nearest_228 : List aIn := [(.aload_n 0, 0, 0, 0, []), (.dup, 0, 0, 0, []), (.getfield 160, 10, 12, 0, []), (.iconst 1, 1, 0, 0, []), (.iadd, 0, 0, 0, []), (.putfield 160, 10, 12, 0, []), (.return_, 0, 0, 0, [])]
def bkX9_nearest : List (Nat × List aIn) := [(0, blX9_nearest_0), (16, blX9_nearest_16), (21, blX9_nearest_21), (24, blX9_nearest_24), (25, blX9_nearest_25), (31, blX9_nearest_31), (36, blX9_nearest_36), (44, blX9_nearest_44), (48, blX9_nearest_48), (55, blX9_nearest_55), (62, blX9_nearest_62), (69, blX9_nearest_69), (79, blX9_nearest_79), (82, blX9_nearest_82), (94, blX9_nearest_94), (102, blX9_nearest_102), (108, blX9_nearest_108), (112, blX9_nearest_112), (116, blX9_nearest_116), (117, blX9_nearest_117), (125, blX9_nearest_125), (129, blX9_nearest_129), (138, blX9_nearest_138), (144, blX9_nearest_144), (148, blX9_nearest_148), (157, blX9_nearest_157), (161, blX9_nearest_161), (167, blX9_nearest_167), (174, blX9_nearest_174), (184, blX9_nearest_184), (191, blX9_nearest_191), (194, blX9_nearest_194), (201, blX9_nearest_201), (207, blX9_nearest_207), (211, blX9_nearest_211), (212, blX9_nearest_212), (219, blX9_nearest_219), (228, blX9_nearest_228)]
theorem bqX9_nearest_0 : aLook bkX9_nearest 0 = some blX9_nearest_0 := rfl
theorem bqX9_nearest_16 : aLook bkX9_nearest 16 = some blX9_nearest_16 := rfl
theorem bqX9_nearest_21 : aLook bkX9_nearest 21 = some blX9_nearest_21 := rfl
theorem bqX9_nearest_24 : aLook bkX9_nearest 24 = some blX9_nearest_24 := rfl
theorem bqX9_nearest_25 : aLook bkX9_nearest 25 = some blX9_nearest_25 := rfl
theorem bqX9_nearest_31 : aLook bkX9_nearest 31 = some blX9_nearest_31 := rfl
theorem bqX9_nearest_36 : aLook bkX9_nearest 36 = some blX9_nearest_36 := rfl
theorem bqX9_nearest_44 : aLook bkX9_nearest 44 = some blX9_nearest_44 := rfl
theorem bqX9_nearest_48 : aLook bkX9_nearest 48 = some blX9_nearest_48 := rfl
theorem bqX9_nearest_55 : aLook bkX9_nearest 55 = some blX9_nearest_55 := rfl
theorem bqX9_nearest_62 : aLook bkX9_nearest 62 = some blX9_nearest_62 := rfl
theorem bqX9_nearest_69 : aLook bkX9_nearest 69 = some blX9_nearest_69 := rfl
theorem bqX9_nearest_79 : aLook bkX9_nearest 79 = some blX9_nearest_79 := rfl
theorem bqX9_nearest_82 : aLook bkX9_nearest 82 = some blX9_nearest_82 := rfl
theorem bqX9_nearest_94 : aLook bkX9_nearest 94 = some blX9_nearest_94 := rfl
theorem bqX9_nearest_102 : aLook bkX9_nearest 102 = some blX9_nearest_102 := rfl
theorem bqX9_nearest_108 : aLook bkX9_nearest 108 = some blX9_nearest_108 := rfl
theorem bqX9_nearest_112 : aLook bkX9_nearest 112 = some blX9_nearest_112 := rfl
theorem bqX9_nearest_116 : aLook bkX9_nearest 116 = some blX9_nearest_116 := rfl
theorem bqX9_nearest_117 : aLook bkX9_nearest 117 = some blX9_nearest_117 := rfl
theorem bqX9_nearest_125 : aLook bkX9_nearest 125 = some blX9_nearest_125 := rfl
theorem bqX9_nearest_129 : aLook bkX9_nearest 129 = some blX9_nearest_129 := rfl
theorem bqX9_nearest_138 : aLook bkX9_nearest 138 = some blX9_nearest_138 := rfl
theorem bqX9_nearest_144 : aLook bkX9_nearest 144 = some blX9_nearest_144 := rfl
theorem bqX9_nearest_148 : aLook bkX9_nearest 148 = some blX9_nearest_148 := rfl
theorem bqX9_nearest_157 : aLook bkX9_nearest 157 = some blX9_nearest_157 := rfl
theorem bqX9_nearest_161 : aLook bkX9_nearest 161 = some blX9_nearest_161 := rfl
theorem bqX9_nearest_167 : aLook bkX9_nearest 167 = some blX9_nearest_167 := rfl
theorem bqX9_nearest_174 : aLook bkX9_nearest 174 = some blX9_nearest_174 := rfl
theorem bqX9_nearest_184 : aLook bkX9_nearest 184 = some blX9_nearest_184 := rfl
theorem bqX9_nearest_191 : aLook bkX9_nearest 191 = some blX9_nearest_191 := rfl
theorem bqX9_nearest_194 : aLook bkX9_nearest 194 = some blX9_nearest_194 := rfl
theorem bqX9_nearest_201 : aLook bkX9_nearest 201 = some blX9_nearest_201 := rfl
theorem bqX9_nearest_207 : aLook bkX9_nearest 207 = some blX9_nearest_207 := rfl
theorem bqX9_nearest_211 : aLook bkX9_nearest 211 = some blX9_nearest_211 := rfl
theorem bqX9_nearest_212 : aLook bkX9_nearest 212 = some blX9_nearest_212 := rfl
theorem bqX9_nearest_219 : aLook bkX9_nearest 219 = some blX9_nearest_219 := rfl
theorem bqX9_nearest_228 : aLook bkX9_nearest 228 = some blX9_nearest_228 := rfl
theorem boX9_nearest : ∀ pc is, aLook bkX9_nearest pc = some is → aBlk RX9 cX9_nearest 3 false pc is := aBks_ok (lk := lkX9) lkX9_ok (by decide +kernel)
def blX9_second_0 : List aIn := [(.aload_n 0, 0, 0, 0, []), (.iconst 0, 0, 0, 0, []), (.iconst 2, 2, 0, 0, []), (.invokevirtual 47, 3, 0, 0, [])]
def blX9_second_6 : List aIn := [(.aload_n 0, 0, 0, 0, []), (.iconst 1, 1, 0, 0, []), (.iconst 3, 3, 0, 0, []), (.invokevirtual 47, 3, 0, 0, [])]
def blX9_second_12 : List aIn := [(.aload_n 0, 0, 0, 0, []), (.aload_n 0, 0, 0, 0, []), (.getfield 88, 10, 9, 0, []), (.putfield 163, 10, 10, 0, []), (.return_, 0, 0, 0, [])]
def bkX9_second : List (Nat × List aIn) := [(0, blX9_second_0), (6, blX9_second_6), (12, blX9_second_12)]
theorem bqX9_second_0 : aLook bkX9_second 0 = some blX9_second_0 := rfl
theorem bqX9_second_6 : aLook bkX9_second 6 = some blX9_second_6 := rfl
theorem bqX9_second_12 : aLook bkX9_second 12 = some blX9_second_12 := rfl
theorem boX9_second : ∀ pc is, aLook bkX9_second pc = some is → aBlk RX9 cX9_second 1 false pc is := aBks_ok (lk := lkX9) lkX9_ok (by decide +kernel)
def blX9_whole_0 : List aIn := [(.aload_n 0, 0, 0, 0, []), (.iconst 0, 0, 0, 0, []), (.iconst 1, 1, 0, 0, []), (.invokevirtual 134, 3, 0, 0, [])]
def blX9_whole_6 : List aIn := [(.lconst 0, 0, 0, 0, []), (.lstore_n 1, 1, 0, 0, []), (.iconst 3, 3, 0, 0, []), (.istore_n 3, 3, 0, 0, [])]
def blX9_whole_10 : List aIn := [(.iload_n 3, 3, 0, 0, []), (.ifCond .lt 26, 37, 0, 0, [])]
def blX9_whole_14 : List aIn := [(.lload_n 1, 1, 0, 0, []), (.bipush 16, 16, 0, 0, []), (.lshl, 0, 0, 0, []), (.aload_n 0, 0, 0, 0, []), (.getfield 29, 10, 8, 2, []), (.sipush 480, 480, 0, 0, []), (.iload_n 3, 3, 0, 0, []), (.iadd, 0, 0, 0, []), (.iaload, 0, 0, 0, []), (.i2l, 0, 0, 0, []), (.lor, 0, 0, 0, []), (.lstore_n 1, 1, 0, 0, []), (.iinc 3 (-1), 3, 0, 0, []), (.goto (-24), 10, 0, 0, [])]
def blX9_whole_37 : List aIn := [(.aload_n 0, 0, 0, 0, []), (.getfield 88, 10, 9, 0, []), (.ifCond .ge 9, 50, 0, 0, [])]
def blX9_whole_44 : List aIn := [(.lconst 0, 0, 0, 0, []), (.lload_n 1, 1, 0, 0, []), (.lsub, 0, 0, 0, []), (.goto 4, 51, 0, 0, [])]
def blX9_whole_50 : List aIn := [(.lload_n 1, 1, 0, 0, [])]
def blX9_whole_51 : List aIn := [(.lreturn, 0, 0, 0, [])]
def bkX9_whole : List (Nat × List aIn) := [(0, blX9_whole_0), (6, blX9_whole_6), (10, blX9_whole_10), (14, blX9_whole_14), (37, blX9_whole_37), (44, blX9_whole_44), (50, blX9_whole_50), (51, blX9_whole_51)]
theorem bqX9_whole_0 : aLook bkX9_whole 0 = some blX9_whole_0 := rfl
theorem bqX9_whole_6 : aLook bkX9_whole 6 = some blX9_whole_6 := rfl
theorem bqX9_whole_10 : aLook bkX9_whole 10 = some blX9_whole_10 := rfl
theorem bqX9_whole_14 : aLook bkX9_whole 14 = some blX9_whole_14 := rfl
theorem bqX9_whole_37 : aLook bkX9_whole 37 = some blX9_whole_37 := rfl
theorem bqX9_whole_44 : aLook bkX9_whole 44 = some blX9_whole_44 := rfl
theorem bqX9_whole_50 : aLook bkX9_whole 50 = some blX9_whole_50 := rfl
theorem bqX9_whole_51 : aLook bkX9_whole 51 = some blX9_whole_51 := rfl
theorem boX9_whole : ∀ pc is, aLook bkX9_whole pc = some is → aBlk RX9 cX9_whole 4 false pc is := aBks_ok (lk := lkX9) lkX9_ok (by decide +kernel)
def blX9_fromLong_0 : List aIn := [(.aload_n 0, 0, 0, 0, []), (.lload_n 1, 1, 0, 0, []), (.lconst 0, 0, 0, 0, []), (.lcmp, 0, 0, 0, []), (.ifCond .ge 7, 11, 0, 0, [])]
def blX9_fromLong_7 : List aIn := [(.iconst (-1), 1, 1, 0, []), (.goto 4, 12, 0, 0, [])]
def blX9_fromLong_11 : List aIn := [(.iconst 1, 1, 0, 0, [])]
def blX9_fromLong_12 : List aIn := [(.putfield 127, 10, 11, 0, []), (.lload_n 1, 1, 0, 0, []), (.lconst 0, 0, 0, 0, []), (.lcmp, 0, 0, 0, []), (.ifCond .ge 9, 27, 0, 0, [])]
def blX9_fromLong_21 : List aIn := [(.lconst 0, 0, 0, 0, []), (.lload_n 1, 1, 0, 0, []), (.lsub, 0, 0, 0, []), (.goto 4, 28, 0, 0, [])]
def blX9_fromLong_27 : List aIn := [(.lload_n 1, 1, 0, 0, [])]
def blX9_fromLong_28 : List aIn := [(.lstore_n 3, 3, 0, 0, []), (.aload_n 0, 0, 0, 0, []), (.iconst 4, 4, 0, 0, []), (.invokevirtual 36, 2, 0, 0, [])]
def blX9_fromLong_34 : List aIn := [(.iconst 0, 0, 0, 0, []), (.istore 5, 5, 0, 0, [])]
def blX9_fromLong_37 : List aIn := [(.iload 5, 5, 0, 0, []), (.iconst 4, 4, 0, 0, []), (.if_icmp .ge 32, 72, 0, 0, [])]
def blX9_fromLong_43 : List aIn := [(.aload_n 0, 0, 0, 0, []), (.getfield 29, 10, 8, 2, []), (.sipush 320, 320, 0, 0, []), (.iload 5, 5, 0, 0, []), (.iadd, 0, 0, 0, []), (.lload_n 3, 3, 0, 0, []), (.bipush 16, 16, 0, 0, []), (.iload 5, 5, 0, 0, []), (.imul, 0, 0, 0, []), (.lushr, 0, 0, 0, []), (.ldc2_w 41, 65535, 0, 0, []), (.land, 0, 0, 0, []), (.l2i, 0, 0, 0, []), (.iastore, 0, 0, 0, []), (.iinc 5 1, 5, 0, 0, []), (.goto (-32), 37, 0, 0, [])]
def blX9_fromLong_72 : List aIn := [(.aload_n 0, 0, 0, 0, []), (.iconst 5, 5, 0, 0, []), (.iconst 1, 1, 0, 0, []), (.invokevirtual 85, 3, 0, 0, [])]
def blX9_fromLong_78 : List aIn := [(.return_, 0, 0, 0, [])]
def bkX9_fromLong : List (Nat × List aIn) := [(0, blX9_fromLong_0), (7, blX9_fromLong_7), (11, blX9_fromLong_11), (12, blX9_fromLong_12), (21, blX9_fromLong_21), (27, blX9_fromLong_27), (28, blX9_fromLong_28), (34, blX9_fromLong_34), (37, blX9_fromLong_37), (43, blX9_fromLong_43), (72, blX9_fromLong_72), (78, blX9_fromLong_78)]
theorem bqX9_fromLong_0 : aLook bkX9_fromLong 0 = some blX9_fromLong_0 := rfl
theorem bqX9_fromLong_7 : aLook bkX9_fromLong 7 = some blX9_fromLong_7 := rfl
theorem bqX9_fromLong_11 : aLook bkX9_fromLong 11 = some blX9_fromLong_11 := rfl
theorem bqX9_fromLong_12 : aLook bkX9_fromLong 12 = some blX9_fromLong_12 := rfl
theorem bqX9_fromLong_21 : aLook bkX9_fromLong 21 = some blX9_fromLong_21 := rfl
theorem bqX9_fromLong_27 : aLook bkX9_fromLong 27 = some blX9_fromLong_27 := rfl
theorem bqX9_fromLong_28 : aLook bkX9_fromLong 28 = some blX9_fromLong_28 := rfl
theorem bqX9_fromLong_34 : aLook bkX9_fromLong 34 = some blX9_fromLong_34 := rfl
theorem bqX9_fromLong_37 : aLook bkX9_fromLong 37 = some blX9_fromLong_37 := rfl
theorem bqX9_fromLong_43 : aLook bkX9_fromLong 43 = some blX9_fromLong_43 := rfl
theorem bqX9_fromLong_72 : aLook bkX9_fromLong 72 = some blX9_fromLong_72 := rfl
theorem bqX9_fromLong_78 : aLook bkX9_fromLong 78 = some blX9_fromLong_78 := rfl
theorem boX9_fromLong : ∀ pc is, aLook bkX9_fromLong pc = some is → aBlk RX9 cX9_fromLong 6 false pc is := aBks_ok (lk := lkX9) lkX9_ok (by decide +kernel)
def blX9_apply_0 : List aIn := [(.aload_n 0, 0, 0, 0, []), (.iload_n 2, 2, 0, 0, []), (.invokevirtual 74, 2, 0, 0, [])]
def blX9_apply_5 : List aIn := [(.ifCond .eq 29, 34, 0, 0, [])]
def blX9_apply_8 : List aIn := [(.aload_n 0, 0, 0, 0, []), (.iload 4, 4, 0, 0, []), (.invokevirtual 74, 2, 0, 0, [])]
def blX9_apply_14 : List aIn := [(.ifCond .eq 20, 34, 0, 0, [])]
def blX9_apply_17 : List aIn := [(.iload_n 1, 1, 0, 0, []), (.iconst 5, 5, 0, 0, []), (.if_icmp .eq 11, 30, 0, 0, [])]
def blX9_apply_22 : List aIn := [(.aload_n 0, 0, 0, 0, []), (.iload_n 3, 3, 0, 0, []), (.invokevirtual 74, 2, 0, 0, [])]
def blX9_apply_27 : List aIn := [(.ifCond .eq 7, 34, 0, 0, [])]
def blX9_apply_30 : List aIn := [(.iconst 1, 1, 0, 0, []), (.goto 4, 35, 0, 0, [])]
def blX9_apply_34 : List aIn := [(.iconst 0, 0, 0, 0, [])]
def blX9_apply_35 : List aIn := [(.istore 5, 5, 0, 0, []), (.aload_n 0, 0, 0, 0, []), (.iload 5, 5, 0, 0, []), (.ifCond .ne 7, 47, 0, 0, [])]
def blX9_apply_43 : List aIn := [(.iconst 1, 1, 0, 0, []), (.goto 4, 48, 0, 0, [])]
def blX9_apply_47 : List aIn := [(.iconst 0, 0, 0, 0, [])]
def blX9_apply_48 : List aIn := [(.iconst 0, 0, 0, 0, []), (.invokevirtual 67, 3, 0, 0, [])]
def blX9_apply_52 : List aIn := [(.ifCond .eq 5, 57, 0, 0, [])]
def blX9_apply_55 : List aIn := [(.iconst 0, 0, 0, 0, []), (.ireturn, 0, 0, 0, [])]
def blX9_apply_57 : List aIn := [(.iload_n 1, 1, 0, 0, []), (.ifCond .lt 26, 84, 0, 0, [])]
def blX9_apply_61 : List aIn := [(.iload_n 1, 1, 0, 0, []), (.bipush 7, 7, 0, 0, []), (.if_icmp .gt 20, 84, 0, 0, [])]
def blX9_apply_67 : List aIn := [(.iload_n 1, 1, 0, 0, []), (.iconst 5, 5, 0, 0, []), (.if_icmp .ne 18, 87, 0, 0, [])]
def blX9_apply_72 : List aIn := [(.iload_n 3, 3, 0, 0, []), (.bipush (-40), 40, 1, 0, []), (.if_icmp .lt 9, 84, 0, 0, [])]
def blX9_apply_78 : List aIn := [(.iload_n 3, 3, 0, 0, []), (.bipush 40, 40, 0, 0, []), (.if_icmp .le 6, 87, 0, 0, [])]
def blX9_apply_84 : List aIn := [(.bipush (-2), 2, 1, 0, []), (.ireturn, 0, 0, 0, [])]
def blX9_apply_87 : List aIn := [(.iload_n 1, 1, 0, 0, []), (.iconst 5, 5, 0, 0, []), (.if_icmp .eq 11, 100, 0, 0, [])]
def blX9_apply_92 : List aIn := [(.aload_n 0, 0, 0, 0, []), (.iload_n 3, 3, 0, 0, []), (.invokevirtual 124, 2, 0, 0, [])]
def blX9_apply_97 : List aIn := [(.ifCond .eq 7, 104, 0, 0, [])]
def blX9_apply_100 : List aIn := [(.iconst 1, 1, 0, 0, []), (.goto 4, 105, 0, 0, [])]
def blX9_apply_104 : List aIn := [(.iconst 0, 0, 0, 0, [])]
def blX9_apply_105 : List aIn := [(.istore 6, 6, 0, 0, []), (.aload_n 0, 0, 0, 0, []), (.invokevirtual 166, 1, 0, 0, [])]
def blX9_apply_111 : List aIn := [(.aload_n 0, 0, 0, 0, []), (.iload_n 2, 2, 0, 0, []), (.invokevirtual 124, 2, 0, 0, [])]
def blX9_apply_116 : List aIn := [(.ifCond .eq 12, 128, 0, 0, [])]
def blX9_apply_119 : List aIn := [(.iload 6, 6, 0, 0, []), (.ifCond .eq 7, 128, 0, 0, [])]
def blX9_apply_124 : List aIn := [(.iconst 1, 1, 0, 0, []), (.goto 4, 129, 0, 0, [])]
def blX9_apply_128 : List aIn := [(.iconst 0, 0, 0, 0, [])]
def blX9_apply_129 : List aIn := [(.istore 6, 6, 0, 0, []), (.iload 6, 6, 0, 0, []), (.ifCond .ne 5, 138, 0, 0, [])]
def blX9_apply_136 : List aIn := [(.iconst (-1), 1, 1, 0, []), (.ireturn, 0, 0, 0, [])]
def blX9_apply_138 : List aIn := [(.iload_n 1, 1, 0, 0, []), (.iconst 4, 4, 0, 0, []), (.if_icmp .eq 9, 149, 0, 0, [])]
def blX9_apply_143 : List aIn := [(.iload_n 1, 1, 0, 0, []), (.bipush 7, 7, 0, 0, []), (.if_icmp .ne 13, 159, 0, 0, [])]
def blX9_apply_149 : List aIn := [(.aload_n 0, 0, 0, 0, []), (.iload_n 1, 1, 0, 0, []), (.iload_n 3, 3, 0, 0, []), (.iload_n 2, 2, 0, 0, []), (.iload 4, 4, 0, 0, []), (.invokevirtual 169, 5, 0, 0, [])]
def blX9_apply_158 : List aIn := [(.ireturn, 0, 0, 0, [])]
def blX9_apply_159 : List aIn := [(.iload_n 1, 1, 0, 0, []), (.iconst 5, 5, 0, 0, []), (.if_icmp .ne 54, 215, 0, 0, [])]
def blX9_apply_164 : List aIn := [(.aload_n 0, 0, 0, 0, []), (.iconst 0, 0, 0, 0, []), (.iconst 4, 4, 0, 0, []), (.invokevirtual 47, 3, 0, 0, [])]
def blX9_apply_170 : List aIn := [(.aload_n 0, 0, 0, 0, []), (.iconst 1, 1, 0, 0, []), (.iconst 5, 5, 0, 0, []), (.invokevirtual 47, 3, 0, 0, [])]
def blX9_apply_176 : List aIn := [(.aload_n 0, 0, 0, 0, []), (.iload_n 3, 3, 0, 0, []), (.ifCond .le 7, 185, 0, 0, [])]
def blX9_apply_181 : List aIn := [(.iconst 4, 4, 0, 0, []), (.goto 4, 186, 0, 0, [])]
def blX9_apply_185 : List aIn := [(.iconst 5, 5, 0, 0, [])]
def blX9_apply_186 : List aIn := [(.iload_n 3, 3, 0, 0, []), (.ifCond .le 7, 194, 0, 0, [])]
def blX9_apply_190 : List aIn := [(.iload_n 3, 3, 0, 0, []), (.goto 6, 197, 0, 0, [])]
def blX9_apply_194 : List aIn := [(.iconst 0, 0, 0, 0, []), (.iload_n 3, 3, 0, 0, []), (.isub, 0, 0, 0, [])]
def blX9_apply_197 : List aIn := [(.invokevirtual 103, 3, 0, 0, [])]
def blX9_apply_200 : List aIn := [(.aload_n 0, 0, 0, 0, []), (.aload_n 0, 0, 0, 0, []), (.getfield 88, 10, 9, 0, []), (.putfield 127, 10, 11, 0, []), (.aload_n 0, 0, 0, 0, []), (.iload 4, 4, 0, 0, []), (.invokevirtual 173, 2, 0, 0, [])]
def blX9_apply_214 : List aIn := [(.ireturn, 0, 0, 0, [])]
def blX9_apply_215 : List aIn := [(.iload_n 1, 1, 0, 0, []), (.iconst 3, 3, 0, 0, []), (.if_icmp .eq 9, 226, 0, 0, [])]
def blX9_apply_220 : List aIn := [(.iload_n 1, 1, 0, 0, []), (.bipush 6, 6, 0, 0, []), (.if_icmp .ne 12, 235, 0, 0, [])]
def blX9_apply_226 : List aIn := [(.aload_n 0, 0, 0, 0, []), (.getfield 163, 10, 10, 0, []), (.ifCond .ne 5, 235, 0, 0, [])]
def blX9_apply_233 : List aIn := [(.iconst 0, 0, 0, 0, []), (.ireturn, 0, 0, 0, [])]
def blX9_apply_235 : List aIn := [(.iload_n 1, 1, 0, 0, []), (.iconst 2, 2, 0, 0, []), (.if_icmp .ge 11, 248, 0, 0, [])]
def blX9_apply_240 : List aIn := [(.aload_n 0, 0, 0, 0, []), (.iload_n 1, 1, 0, 0, []), (.invokevirtual 176, 2, 0, 0, [])]
def blX9_apply_245 : List aIn := [(.goto 8, 253, 0, 0, [])]
def blX9_apply_248 : List aIn := [(.aload_n 0, 0, 0, 0, []), (.iload_n 1, 1, 0, 0, []), (.invokevirtual 179, 2, 0, 0, [])]
def blX9_apply_253 : List aIn := [(.aload_n 0, 0, 0, 0, []), (.iload 4, 4, 0, 0, []), (.invokevirtual 173, 2, 0, 0, [])]
def blX9_apply_259 : List aIn := [(.ireturn, 0, 0, 0, [])]
def bkX9_apply : List (Nat × List aIn) := [(0, blX9_apply_0), (5, blX9_apply_5), (8, blX9_apply_8), (14, blX9_apply_14), (17, blX9_apply_17), (22, blX9_apply_22), (27, blX9_apply_27), (30, blX9_apply_30), (34, blX9_apply_34), (35, blX9_apply_35), (43, blX9_apply_43), (47, blX9_apply_47), (48, blX9_apply_48), (52, blX9_apply_52), (55, blX9_apply_55), (57, blX9_apply_57), (61, blX9_apply_61), (67, blX9_apply_67), (72, blX9_apply_72), (78, blX9_apply_78), (84, blX9_apply_84), (87, blX9_apply_87), (92, blX9_apply_92), (97, blX9_apply_97), (100, blX9_apply_100), (104, blX9_apply_104), (105, blX9_apply_105), (111, blX9_apply_111), (116, blX9_apply_116), (119, blX9_apply_119), (124, blX9_apply_124), (128, blX9_apply_128), (129, blX9_apply_129), (136, blX9_apply_136), (138, blX9_apply_138), (143, blX9_apply_143), (149, blX9_apply_149), (158, blX9_apply_158), (159, blX9_apply_159), (164, blX9_apply_164), (170, blX9_apply_170), (176, blX9_apply_176), (181, blX9_apply_181), (185, blX9_apply_185), (186, blX9_apply_186), (190, blX9_apply_190), (194, blX9_apply_194), (197, blX9_apply_197), (200, blX9_apply_200), (214, blX9_apply_214), (215, blX9_apply_215), (220, blX9_apply_220), (226, blX9_apply_226), (233, blX9_apply_233), (235, blX9_apply_235), (240, blX9_apply_240), (245, blX9_apply_245), (248, blX9_apply_248), (253, blX9_apply_253), (259, blX9_apply_259)]
theorem bqX9_apply_0 : aLook bkX9_apply 0 = some blX9_apply_0 := rfl
theorem bqX9_apply_5 : aLook bkX9_apply 5 = some blX9_apply_5 := rfl
theorem bqX9_apply_8 : aLook bkX9_apply 8 = some blX9_apply_8 := rfl
theorem bqX9_apply_14 : aLook bkX9_apply 14 = some blX9_apply_14 := rfl
theorem bqX9_apply_17 : aLook bkX9_apply 17 = some blX9_apply_17 := rfl
theorem bqX9_apply_22 : aLook bkX9_apply 22 = some blX9_apply_22 := rfl
theorem bqX9_apply_27 : aLook bkX9_apply 27 = some blX9_apply_27 := rfl
theorem bqX9_apply_30 : aLook bkX9_apply 30 = some blX9_apply_30 := rfl
theorem bqX9_apply_34 : aLook bkX9_apply 34 = some blX9_apply_34 := rfl
theorem bqX9_apply_35 : aLook bkX9_apply 35 = some blX9_apply_35 := rfl
theorem bqX9_apply_43 : aLook bkX9_apply 43 = some blX9_apply_43 := rfl
theorem bqX9_apply_47 : aLook bkX9_apply 47 = some blX9_apply_47 := rfl
theorem bqX9_apply_48 : aLook bkX9_apply 48 = some blX9_apply_48 := rfl
theorem bqX9_apply_52 : aLook bkX9_apply 52 = some blX9_apply_52 := rfl
theorem bqX9_apply_55 : aLook bkX9_apply 55 = some blX9_apply_55 := rfl
theorem bqX9_apply_57 : aLook bkX9_apply 57 = some blX9_apply_57 := rfl
theorem bqX9_apply_61 : aLook bkX9_apply 61 = some blX9_apply_61 := rfl
theorem bqX9_apply_67 : aLook bkX9_apply 67 = some blX9_apply_67 := rfl
theorem bqX9_apply_72 : aLook bkX9_apply 72 = some blX9_apply_72 := rfl
theorem bqX9_apply_78 : aLook bkX9_apply 78 = some blX9_apply_78 := rfl
theorem bqX9_apply_84 : aLook bkX9_apply 84 = some blX9_apply_84 := rfl
theorem bqX9_apply_87 : aLook bkX9_apply 87 = some blX9_apply_87 := rfl
theorem bqX9_apply_92 : aLook bkX9_apply 92 = some blX9_apply_92 := rfl
theorem bqX9_apply_97 : aLook bkX9_apply 97 = some blX9_apply_97 := rfl
theorem bqX9_apply_100 : aLook bkX9_apply 100 = some blX9_apply_100 := rfl
theorem bqX9_apply_104 : aLook bkX9_apply 104 = some blX9_apply_104 := rfl
theorem bqX9_apply_105 : aLook bkX9_apply 105 = some blX9_apply_105 := rfl
theorem bqX9_apply_111 : aLook bkX9_apply 111 = some blX9_apply_111 := rfl
theorem bqX9_apply_116 : aLook bkX9_apply 116 = some blX9_apply_116 := rfl
theorem bqX9_apply_119 : aLook bkX9_apply 119 = some blX9_apply_119 := rfl
theorem bqX9_apply_124 : aLook bkX9_apply 124 = some blX9_apply_124 := rfl
theorem bqX9_apply_128 : aLook bkX9_apply 128 = some blX9_apply_128 := rfl
theorem bqX9_apply_129 : aLook bkX9_apply 129 = some blX9_apply_129 := rfl
theorem bqX9_apply_136 : aLook bkX9_apply 136 = some blX9_apply_136 := rfl
theorem bqX9_apply_138 : aLook bkX9_apply 138 = some blX9_apply_138 := rfl
theorem bqX9_apply_143 : aLook bkX9_apply 143 = some blX9_apply_143 := rfl
theorem bqX9_apply_149 : aLook bkX9_apply 149 = some blX9_apply_149 := rfl
theorem bqX9_apply_158 : aLook bkX9_apply 158 = some blX9_apply_158 := rfl
theorem bqX9_apply_159 : aLook bkX9_apply 159 = some blX9_apply_159 := rfl
theorem bqX9_apply_164 : aLook bkX9_apply 164 = some blX9_apply_164 := rfl
theorem bqX9_apply_170 : aLook bkX9_apply 170 = some blX9_apply_170 := rfl
theorem bqX9_apply_176 : aLook bkX9_apply 176 = some blX9_apply_176 := rfl
theorem bqX9_apply_181 : aLook bkX9_apply 181 = some blX9_apply_181 := rfl
theorem bqX9_apply_185 : aLook bkX9_apply 185 = some blX9_apply_185 := rfl
theorem bqX9_apply_186 : aLook bkX9_apply 186 = some blX9_apply_186 := rfl
theorem bqX9_apply_190 : aLook bkX9_apply 190 = some blX9_apply_190 := rfl
theorem bqX9_apply_194 : aLook bkX9_apply 194 = some blX9_apply_194 := rfl
theorem bqX9_apply_197 : aLook bkX9_apply 197 = some blX9_apply_197 := rfl
theorem bqX9_apply_200 : aLook bkX9_apply 200 = some blX9_apply_200 := rfl
theorem bqX9_apply_214 : aLook bkX9_apply 214 = some blX9_apply_214 := rfl
theorem bqX9_apply_215 : aLook bkX9_apply 215 = some blX9_apply_215 := rfl
theorem bqX9_apply_220 : aLook bkX9_apply 220 = some blX9_apply_220 := rfl
theorem bqX9_apply_226 : aLook bkX9_apply 226 = some blX9_apply_226 := rfl
theorem bqX9_apply_233 : aLook bkX9_apply 233 = some blX9_apply_233 := rfl
theorem bqX9_apply_235 : aLook bkX9_apply 235 = some blX9_apply_235 := rfl
theorem bqX9_apply_240 : aLook bkX9_apply 240 = some blX9_apply_240 := rfl
theorem bqX9_apply_245 : aLook bkX9_apply 245 = some blX9_apply_245 := rfl
theorem bqX9_apply_248 : aLook bkX9_apply 248 = some blX9_apply_248 := rfl
theorem bqX9_apply_253 : aLook bkX9_apply 253 = some blX9_apply_253 := rfl
theorem bqX9_apply_259 : aLook bkX9_apply 259 = some blX9_apply_259 := rfl
theorem boX9_apply : ∀ pc is, aLook bkX9_apply pc = some is → aBlk RX9 cX9_apply 7 false pc is := aBks_ok (lk := lkX9) lkX9_ok (by decide +kernel)
def blX9_stored_0 : List aIn := [(.aload_n 0, 0, 0, 0, []), (.iload_n 1, 1, 0, 0, []), (.invokevirtual 182, 2, 0, 0, [])]
def blX9_stored_5 : List aIn := [(.ifCond .le 7, 12, 0, 0, [])]
def blX9_stored_8 : List aIn := [(.iconst 1, 1, 0, 0, []), (.goto 4, 13, 0, 0, [])]
def blX9_stored_12 : List aIn := [(.iconst 0, 0, 0, 0, [])]
def blX9_stored_13 : List aIn := [(.ireturn, 0, 0, 0, [])]
def bkX9_stored : List (Nat × List aIn) := [(0, blX9_stored_0), (5, blX9_stored_5), (8, blX9_stored_8), (12, blX9_stored_12), (13, blX9_stored_13)]
theorem bqX9_stored_0 : aLook bkX9_stored 0 = some blX9_stored_0 := rfl
theorem bqX9_stored_5 : aLook bkX9_stored 5 = some blX9_stored_5 := rfl
theorem bqX9_stored_8 : aLook bkX9_stored 8 = some blX9_stored_8 := rfl
theorem bqX9_stored_12 : aLook bkX9_stored 12 = some blX9_stored_12 := rfl
theorem bqX9_stored_13 : aLook bkX9_stored 13 = some blX9_stored_13 := rfl
theorem boX9_stored : ∀ pc is, aLook bkX9_stored pc = some is → aBlk RX9 cX9_stored 2 false pc is := aBks_ok (lk := lkX9) lkX9_ok (by decide +kernel)
def blX9_wholes_0 : List aIn := [(.aload_n 0, 0, 0, 0, []), (.invokevirtual 185, 1, 0, 0, [])]
def blX9_wholes_4 : List aIn := [(.lstore 5, 5, 0, 0, []), (.aload_n 0, 0, 0, 0, []), (.iconst 2, 2, 0, 0, []), (.iconst 0, 0, 0, 0, []), (.invokevirtual 47, 3, 0, 0, [])]
def blX9_wholes_12 : List aIn := [(.aload_n 0, 0, 0, 0, []), (.iconst 3, 3, 0, 0, []), (.iconst 1, 1, 0, 0, []), (.invokevirtual 47, 3, 0, 0, [])]
def blX9_wholes_18 : List aIn := [(.aload_n 0, 0, 0, 0, []), (.aload_n 0, 0, 0, 0, []), (.getfield 163, 10, 10, 0, []), (.putfield 88, 10, 9, 0, []), (.aload_n 0, 0, 0, 0, []), (.invokevirtual 185, 1, 0, 0, [])]
def blX9_wholes_30 : List aIn := [(.lstore 7, 7, 0, 0, []), (.lload 7, 7, 0, 0, []), (.lconst 0, 0, 0, 0, []), (.lcmp, 0, 0, 0, []), (.ifCond .ne 10, 46, 0, 0, [])]
def blX9_wholes_39 : List aIn := [(.aload_n 0, 0, 0, 0, []), (.iconst 2, 2, 0, 0, []), (.putfield 32, 10, 0, 0, []), (.iconst 0, 0, 0, 0, []), (.ireturn, 0, 0, 0, [])]
def blX9_wholes_46 : List aIn := [(.aload_n 0, 0, 0, 0, []), (.lload 7, 7, 0, 0, []), (.ldc2_w 189, 1, 1, 0, []), (.lcmp, 0, 0, 0, []), (.ifCond .ne 19, 72, 0, 0, [])]
def blX9_wholes_56 : List aIn := [(.iload_n 1, 1, 0, 0, []), (.iconst 4, 4, 0, 0, []), (.if_icmp .ne 10, 68, 0, 0, [])]
def blX9_wholes_61 : List aIn := [(.lconst 0, 0, 0, 0, []), (.lload 5, 5, 0, 0, []), (.lsub, 0, 0, 0, []), (.goto 25, 90, 0, 0, [])]
def blX9_wholes_68 : List aIn := [(.lconst 0, 0, 0, 0, []), (.goto 21, 90, 0, 0, [])]
def blX9_wholes_72 : List aIn := [(.iload_n 1, 1, 0, 0, []), (.iconst 4, 4, 0, 0, []), (.if_icmp .ne 11, 85, 0, 0, [])]
def blX9_wholes_77 : List aIn := [(.lload 5, 5, 0, 0, []), (.lload 7, 7, 0, 0, []), (.ldiv, 0, 0, 0, []), (.goto 8, 90, 0, 0, [])]
def blX9_wholes_85 : List aIn := [(.lload 5, 5, 0, 0, []), (.lload 7, 7, 0, 0, []), (.lrem, 0, 0, 0, [])]
def blX9_wholes_90 : List aIn := [(.invokevirtual 191, 2, 0, 0, [])]
def blX9_wholes_93 : List aIn := [(.aload_n 0, 0, 0, 0, []), (.iload 4, 4, 0, 0, []), (.invokevirtual 173, 2, 0, 0, [])]
def blX9_wholes_99 : List aIn := [(.ireturn, 0, 0, 0, [])]
def bkX9_wholes : List (Nat × List aIn) := [(0, blX9_wholes_0), (4, blX9_wholes_4), (12, blX9_wholes_12), (18, blX9_wholes_18), (30, blX9_wholes_30), (39, blX9_wholes_39), (46, blX9_wholes_46), (56, blX9_wholes_56), (61, blX9_wholes_61), (68, blX9_wholes_68), (72, blX9_wholes_72), (77, blX9_wholes_77), (85, blX9_wholes_85), (90, blX9_wholes_90), (93, blX9_wholes_93), (99, blX9_wholes_99)]
theorem bqX9_wholes_0 : aLook bkX9_wholes 0 = some blX9_wholes_0 := rfl
theorem bqX9_wholes_4 : aLook bkX9_wholes 4 = some blX9_wholes_4 := rfl
theorem bqX9_wholes_12 : aLook bkX9_wholes 12 = some blX9_wholes_12 := rfl
theorem bqX9_wholes_18 : aLook bkX9_wholes 18 = some blX9_wholes_18 := rfl
theorem bqX9_wholes_30 : aLook bkX9_wholes 30 = some blX9_wholes_30 := rfl
theorem bqX9_wholes_39 : aLook bkX9_wholes 39 = some blX9_wholes_39 := rfl
theorem bqX9_wholes_46 : aLook bkX9_wholes 46 = some blX9_wholes_46 := rfl
theorem bqX9_wholes_56 : aLook bkX9_wholes 56 = some blX9_wholes_56 := rfl
theorem bqX9_wholes_61 : aLook bkX9_wholes 61 = some blX9_wholes_61 := rfl
theorem bqX9_wholes_68 : aLook bkX9_wholes 68 = some blX9_wholes_68 := rfl
theorem bqX9_wholes_72 : aLook bkX9_wholes 72 = some blX9_wholes_72 := rfl
theorem bqX9_wholes_77 : aLook bkX9_wholes 77 = some blX9_wholes_77 := rfl
theorem bqX9_wholes_85 : aLook bkX9_wholes 85 = some blX9_wholes_85 := rfl
theorem bqX9_wholes_90 : aLook bkX9_wholes 90 = some blX9_wholes_90 := rfl
theorem bqX9_wholes_93 : aLook bkX9_wholes 93 = some blX9_wholes_93 := rfl
theorem bqX9_wholes_99 : aLook bkX9_wholes 99 = some blX9_wholes_99 := rfl
theorem boX9_wholes : ∀ pc is, aLook bkX9_wholes pc = some is → aBlk RX9 cX9_wholes 9 false pc is := aBks_ok (lk := lkX9) lkX9_ok (by decide +kernel)
def blX9_sum_0 : List aIn := [(.iload_n 1, 1, 0, 0, []), (.ifCond .ne 10, 11, 0, 0, [])]
def blX9_sum_4 : List aIn := [(.aload_n 0, 0, 0, 0, []), (.getfield 163, 10, 10, 0, []), (.goto 9, 17, 0, 0, [])]
def blX9_sum_11 : List aIn := [(.iconst 0, 0, 0, 0, []), (.aload_n 0, 0, 0, 0, []), (.getfield 163, 10, 10, 0, []), (.isub, 0, 0, 0, [])]
def blX9_sum_17 : List aIn := [(.istore_n 2, 2, 0, 0, []), (.aload_n 0, 0, 0, 0, []), (.iconst 0, 0, 0, 0, []), (.iconst 3, 3, 0, 0, []), (.iconst 4, 4, 0, 0, []), (.invokevirtual 195, 4, 0, 0, [])]
def blX9_sum_25 : List aIn := [(.aload_n 0, 0, 0, 0, []), (.iconst 2, 2, 0, 0, []), (.iconst 1, 1, 0, 0, []), (.bipush 9, 9, 0, 0, []), (.invokevirtual 195, 4, 0, 0, [])]
def blX9_sum_33 : List aIn := [(.aload_n 0, 0, 0, 0, []), (.iconst 1, 1, 0, 0, []), (.iconst 3, 3, 0, 0, []), (.iconst 5, 5, 0, 0, []), (.invokevirtual 195, 4, 0, 0, [])]
def blX9_sum_40 : List aIn := [(.aload_n 0, 0, 0, 0, []), (.getfield 88, 10, 9, 0, []), (.ifCond .eq 15, 59, 0, 0, [])]
def blX9_sum_47 : List aIn := [(.iload_n 2, 2, 0, 0, []), (.ifCond .eq 11, 59, 0, 0, [])]
def blX9_sum_51 : List aIn := [(.aload_n 0, 0, 0, 0, []), (.getfield 88, 10, 9, 0, []), (.iload_n 2, 2, 0, 0, []), (.if_icmp .ne 7, 63, 0, 0, [])]
def blX9_sum_59 : List aIn := [(.iconst 1, 1, 0, 0, []), (.goto 4, 64, 0, 0, [])]
def blX9_sum_63 : List aIn := [(.iconst 0, 0, 0, 0, [])]
def blX9_sum_64 : List aIn := [(.istore_n 3, 3, 0, 0, []), (.iload_n 3, 3, 0, 0, []), (.ifCond .eq 32, 98, 0, 0, [])]
def blX9_sum_69 : List aIn := [(.aload_n 0, 0, 0, 0, []), (.iconst 4, 4, 0, 0, []), (.bipush 9, 9, 0, 0, []), (.invokevirtual 198, 3, 0, 0, [])]
def blX9_sum_76 : List aIn := [(.aload_n 0, 0, 0, 0, []), (.aload_n 0, 0, 0, 0, []), (.getfield 88, 10, 9, 0, []), (.ifCond .ne 7, 88, 0, 0, [])]
def blX9_sum_84 : List aIn := [(.iload_n 2, 2, 0, 0, []), (.goto 7, 92, 0, 0, [])]
def blX9_sum_88 : List aIn := [(.aload_n 0, 0, 0, 0, []), (.getfield 88, 10, 9, 0, [])]
def blX9_sum_92 : List aIn := [(.putfield 127, 10, 11, 0, []), (.goto 50, 145, 0, 0, [])]
def blX9_sum_98 : List aIn := [(.aload_n 0, 0, 0, 0, []), (.iconst 4, 4, 0, 0, []), (.bipush 9, 9, 0, 0, []), (.invokevirtual 58, 3, 0, 0, [])]
def blX9_sum_105 : List aIn := [(.ifCond .lt 21, 126, 0, 0, [])]
def blX9_sum_108 : List aIn := [(.aload_n 0, 0, 0, 0, []), (.iconst 4, 4, 0, 0, []), (.bipush 9, 9, 0, 0, []), (.invokevirtual 61, 3, 0, 0, [])]
def blX9_sum_115 : List aIn := [(.aload_n 0, 0, 0, 0, []), (.aload_n 0, 0, 0, 0, []), (.getfield 88, 10, 9, 0, []), (.putfield 127, 10, 11, 0, []), (.goto 22, 145, 0, 0, [])]
def blX9_sum_126 : List aIn := [(.aload_n 0, 0, 0, 0, []), (.bipush 9, 9, 0, 0, []), (.iconst 4, 4, 0, 0, []), (.invokevirtual 61, 3, 0, 0, [])]
def blX9_sum_133 : List aIn := [(.aload_n 0, 0, 0, 0, []), (.bipush 9, 9, 0, 0, []), (.iconst 4, 4, 0, 0, []), (.invokevirtual 47, 3, 0, 0, [])]
def blX9_sum_140 : List aIn := [(.aload_n 0, 0, 0, 0, []), (.iload_n 2, 2, 0, 0, []), (.putfield 127, 10, 11, 0, [])]
def blX9_sum_145 : List aIn := [(.return_, 0, 0, 0, [])]
def bkX9_sum : List (Nat × List aIn) := [(0, blX9_sum_0), (4, blX9_sum_4), (11, blX9_sum_11), (17, blX9_sum_17), (25, blX9_sum_25), (33, blX9_sum_33), (40, blX9_sum_40), (47, blX9_sum_47), (51, blX9_sum_51), (59, blX9_sum_59), (63, blX9_sum_63), (64, blX9_sum_64), (69, blX9_sum_69), (76, blX9_sum_76), (84, blX9_sum_84), (88, blX9_sum_88), (92, blX9_sum_92), (98, blX9_sum_98), (105, blX9_sum_105), (108, blX9_sum_108), (115, blX9_sum_115), (126, blX9_sum_126), (133, blX9_sum_133), (140, blX9_sum_140), (145, blX9_sum_145)]
theorem bqX9_sum_0 : aLook bkX9_sum 0 = some blX9_sum_0 := rfl
theorem bqX9_sum_4 : aLook bkX9_sum 4 = some blX9_sum_4 := rfl
theorem bqX9_sum_11 : aLook bkX9_sum 11 = some blX9_sum_11 := rfl
theorem bqX9_sum_17 : aLook bkX9_sum 17 = some blX9_sum_17 := rfl
theorem bqX9_sum_25 : aLook bkX9_sum 25 = some blX9_sum_25 := rfl
theorem bqX9_sum_33 : aLook bkX9_sum 33 = some blX9_sum_33 := rfl
theorem bqX9_sum_40 : aLook bkX9_sum 40 = some blX9_sum_40 := rfl
theorem bqX9_sum_47 : aLook bkX9_sum 47 = some blX9_sum_47 := rfl
theorem bqX9_sum_51 : aLook bkX9_sum 51 = some blX9_sum_51 := rfl
theorem bqX9_sum_59 : aLook bkX9_sum 59 = some blX9_sum_59 := rfl
theorem bqX9_sum_63 : aLook bkX9_sum 63 = some blX9_sum_63 := rfl
theorem bqX9_sum_64 : aLook bkX9_sum 64 = some blX9_sum_64 := rfl
theorem bqX9_sum_69 : aLook bkX9_sum 69 = some blX9_sum_69 := rfl
theorem bqX9_sum_76 : aLook bkX9_sum 76 = some blX9_sum_76 := rfl
theorem bqX9_sum_84 : aLook bkX9_sum 84 = some blX9_sum_84 := rfl
theorem bqX9_sum_88 : aLook bkX9_sum 88 = some blX9_sum_88 := rfl
theorem bqX9_sum_92 : aLook bkX9_sum 92 = some blX9_sum_92 := rfl
theorem bqX9_sum_98 : aLook bkX9_sum 98 = some blX9_sum_98 := rfl
theorem bqX9_sum_105 : aLook bkX9_sum 105 = some blX9_sum_105 := rfl
theorem bqX9_sum_108 : aLook bkX9_sum 108 = some blX9_sum_108 := rfl
theorem bqX9_sum_115 : aLook bkX9_sum 115 = some blX9_sum_115 := rfl
theorem bqX9_sum_126 : aLook bkX9_sum 126 = some blX9_sum_126 := rfl
theorem bqX9_sum_133 : aLook bkX9_sum 133 = some blX9_sum_133 := rfl
theorem bqX9_sum_140 : aLook bkX9_sum 140 = some blX9_sum_140 := rfl
theorem bqX9_sum_145 : aLook bkX9_sum 145 = some blX9_sum_145 := rfl
theorem boX9_sum : ∀ pc is, aLook bkX9_sum pc = some is → aBlk RX9 cX9_sum 4 false pc is := aBks_ok (lk := lkX9) lkX9_ok (by decide +kernel)
def blX9_exactly_0 : List aIn := [(.iload_n 1, 1, 0, 0, []), (.iconst 2, 2, 0, 0, []), (.if_icmp .ne 31, 33, 0, 0, [])]
def blX9_exactly_5 : List aIn := [(.aload_n 0, 0, 0, 0, []), (.iconst 0, 0, 0, 0, []), (.iconst 2, 2, 0, 0, []), (.iconst 4, 4, 0, 0, []), (.invokevirtual 195, 4, 0, 0, [])]
def blX9_exactly_12 : List aIn := [(.aload_n 0, 0, 0, 0, []), (.iconst 1, 1, 0, 0, []), (.iconst 3, 3, 0, 0, []), (.iconst 5, 5, 0, 0, []), (.invokevirtual 195, 4, 0, 0, [])]
def blX9_exactly_19 : List aIn := [(.aload_n 0, 0, 0, 0, []), (.aload_n 0, 0, 0, 0, []), (.getfield 88, 10, 9, 0, []), (.aload_n 0, 0, 0, 0, []), (.getfield 163, 10, 10, 0, []), (.imul, 0, 0, 0, []), (.putfield 127, 10, 11, 0, []), (.return_, 0, 0, 0, [])]
def blX9_exactly_33 : List aIn := [(.iload_n 1, 1, 0, 0, []), (.iconst 3, 3, 0, 0, []), (.if_icmp .ne 31, 66, 0, 0, [])]
def blX9_exactly_38 : List aIn := [(.aload_n 0, 0, 0, 0, []), (.iconst 0, 0, 0, 0, []), (.iconst 3, 3, 0, 0, []), (.iconst 4, 4, 0, 0, []), (.invokevirtual 195, 4, 0, 0, [])]
def blX9_exactly_45 : List aIn := [(.aload_n 0, 0, 0, 0, []), (.iconst 1, 1, 0, 0, []), (.iconst 2, 2, 0, 0, []), (.iconst 5, 5, 0, 0, []), (.invokevirtual 195, 4, 0, 0, [])]
def blX9_exactly_52 : List aIn := [(.aload_n 0, 0, 0, 0, []), (.aload_n 0, 0, 0, 0, []), (.getfield 88, 10, 9, 0, []), (.aload_n 0, 0, 0, 0, []), (.getfield 163, 10, 10, 0, []), (.imul, 0, 0, 0, []), (.putfield 127, 10, 11, 0, []), (.return_, 0, 0, 0, [])]
def blX9_exactly_66 : List aIn := [(.aload_n 0, 0, 0, 0, []), (.iconst 0, 0, 0, 0, []), (.iconst 3, 3, 0, 0, []), (.iconst 4, 4, 0, 0, []), (.invokevirtual 195, 4, 0, 0, [])]
def blX9_exactly_73 : List aIn := [(.aload_n 0, 0, 0, 0, []), (.iconst 2, 2, 0, 0, []), (.iconst 1, 1, 0, 0, []), (.iconst 5, 5, 0, 0, []), (.invokevirtual 195, 4, 0, 0, [])]
def blX9_exactly_80 : List aIn := [(.aload_n 0, 0, 0, 0, []), (.iconst 4, 4, 0, 0, []), (.iconst 5, 5, 0, 0, []), (.invokevirtual 134, 3, 0, 0, [])]
def blX9_exactly_86 : List aIn := [(.aload_n 0, 0, 0, 0, []), (.bipush 7, 7, 0, 0, []), (.iconst 4, 4, 0, 0, []), (.invokevirtual 47, 3, 0, 0, [])]
def blX9_exactly_93 : List aIn := [(.aload_n 0, 0, 0, 0, []), (.iconst 1, 1, 0, 0, []), (.iconst 3, 3, 0, 0, []), (.iconst 5, 5, 0, 0, []), (.invokevirtual 195, 4, 0, 0, [])]
def blX9_exactly_100 : List aIn := [(.aload_n 0, 0, 0, 0, []), (.aload_n 0, 0, 0, 0, []), (.getfield 88, 10, 9, 0, []), (.putfield 127, 10, 11, 0, []), (.return_, 0, 0, 0, [])]
def bkX9_exactly : List (Nat × List aIn) := [(0, blX9_exactly_0), (5, blX9_exactly_5), (12, blX9_exactly_12), (19, blX9_exactly_19), (33, blX9_exactly_33), (38, blX9_exactly_38), (45, blX9_exactly_45), (52, blX9_exactly_52), (66, blX9_exactly_66), (73, blX9_exactly_73), (80, blX9_exactly_80), (86, blX9_exactly_86), (93, blX9_exactly_93), (100, blX9_exactly_100)]
theorem bqX9_exactly_0 : aLook bkX9_exactly 0 = some blX9_exactly_0 := rfl
theorem bqX9_exactly_5 : aLook bkX9_exactly 5 = some blX9_exactly_5 := rfl
theorem bqX9_exactly_12 : aLook bkX9_exactly 12 = some blX9_exactly_12 := rfl
theorem bqX9_exactly_19 : aLook bkX9_exactly 19 = some blX9_exactly_19 := rfl
theorem bqX9_exactly_33 : aLook bkX9_exactly 33 = some blX9_exactly_33 := rfl
theorem bqX9_exactly_38 : aLook bkX9_exactly 38 = some blX9_exactly_38 := rfl
theorem bqX9_exactly_45 : aLook bkX9_exactly 45 = some blX9_exactly_45 := rfl
theorem bqX9_exactly_52 : aLook bkX9_exactly 52 = some blX9_exactly_52 := rfl
theorem bqX9_exactly_66 : aLook bkX9_exactly 66 = some blX9_exactly_66 := rfl
theorem bqX9_exactly_73 : aLook bkX9_exactly 73 = some blX9_exactly_73 := rfl
theorem bqX9_exactly_80 : aLook bkX9_exactly 80 = some blX9_exactly_80 := rfl
theorem bqX9_exactly_86 : aLook bkX9_exactly 86 = some blX9_exactly_86 := rfl
theorem bqX9_exactly_93 : aLook bkX9_exactly 93 = some blX9_exactly_93 := rfl
theorem bqX9_exactly_100 : aLook bkX9_exactly 100 = some blX9_exactly_100 := rfl
theorem boX9_exactly : ∀ pc is, aLook bkX9_exactly pc = some is → aBlk RX9 cX9_exactly 2 false pc is := aBks_ok (lk := lkX9) lkX9_ok (by decide +kernel)
def blX9_compare_0 : List aIn := [(.aload_n 0, 0, 0, 0, []), (.aload_n 0, 0, 0, 0, []), (.iload_n 1, 1, 0, 0, []), (.invokevirtual 74, 2, 0, 0, [])]
def blX9_compare_6 : List aIn := [(.ifCond .eq 11, 17, 0, 0, [])]
def blX9_compare_9 : List aIn := [(.aload_n 0, 0, 0, 0, []), (.iload_n 2, 2, 0, 0, []), (.invokevirtual 74, 2, 0, 0, [])]
def blX9_compare_14 : List aIn := [(.ifCond .ne 7, 21, 0, 0, [])]
def blX9_compare_17 : List aIn := [(.iconst 1, 1, 0, 0, []), (.goto 4, 22, 0, 0, [])]
def blX9_compare_21 : List aIn := [(.iconst 0, 0, 0, 0, [])]
def blX9_compare_22 : List aIn := [(.iconst 0, 0, 0, 0, []), (.invokevirtual 67, 3, 0, 0, [])]
def blX9_compare_26 : List aIn := [(.ifCond .eq 5, 31, 0, 0, [])]
def blX9_compare_29 : List aIn := [(.iconst 0, 0, 0, 0, []), (.ireturn, 0, 0, 0, [])]
def blX9_compare_31 : List aIn := [(.aload_n 0, 0, 0, 0, []), (.iload_n 2, 2, 0, 0, []), (.invokevirtual 124, 2, 0, 0, [])]
def blX9_compare_36 : List aIn := [(.istore_n 3, 3, 0, 0, []), (.aload_n 0, 0, 0, 0, []), (.invokevirtual 166, 1, 0, 0, [])]
def blX9_compare_41 : List aIn := [(.aload_n 0, 0, 0, 0, []), (.iload_n 1, 1, 0, 0, []), (.invokevirtual 124, 2, 0, 0, [])]
def blX9_compare_46 : List aIn := [(.ifCond .eq 11, 57, 0, 0, [])]
def blX9_compare_49 : List aIn := [(.iload_n 3, 3, 0, 0, []), (.ifCond .eq 7, 57, 0, 0, [])]
def blX9_compare_53 : List aIn := [(.iconst 1, 1, 0, 0, []), (.goto 4, 58, 0, 0, [])]
def blX9_compare_57 : List aIn := [(.iconst 0, 0, 0, 0, [])]
def blX9_compare_58 : List aIn := [(.istore_n 3, 3, 0, 0, []), (.iload_n 3, 3, 0, 0, []), (.ifCond .ne 6, 66, 0, 0, [])]
def blX9_compare_63 : List aIn := [(.bipush (-2), 2, 1, 0, []), (.ireturn, 0, 0, 0, [])]
def blX9_compare_66 : List aIn := [(.aload_n 0, 0, 0, 0, []), (.getfield 88, 10, 9, 0, []), (.aload_n 0, 0, 0, 0, []), (.getfield 163, 10, 10, 0, []), (.if_icmp .eq 20, 94, 0, 0, [])]
def blX9_compare_77 : List aIn := [(.aload_n 0, 0, 0, 0, []), (.getfield 88, 10, 9, 0, []), (.aload_n 0, 0, 0, 0, []), (.getfield 163, 10, 10, 0, []), (.if_icmp .ge 7, 92, 0, 0, [])]
def blX9_compare_88 : List aIn := [(.iconst (-1), 1, 1, 0, []), (.goto 4, 93, 0, 0, [])]
def blX9_compare_92 : List aIn := [(.iconst 1, 1, 0, 0, [])]
def blX9_compare_93 : List aIn := [(.ireturn, 0, 0, 0, [])]
def blX9_compare_94 : List aIn := [(.aload_n 0, 0, 0, 0, []), (.iconst 0, 0, 0, 0, []), (.iconst 3, 3, 0, 0, []), (.bipush 9, 9, 0, 0, []), (.invokevirtual 195, 4, 0, 0, [])]
def blX9_compare_102 : List aIn := [(.aload_n 0, 0, 0, 0, []), (.bipush 9, 9, 0, 0, []), (.iconst 4, 4, 0, 0, []), (.invokevirtual 47, 3, 0, 0, [])]
def blX9_compare_109 : List aIn := [(.aload_n 0, 0, 0, 0, []), (.iconst 2, 2, 0, 0, []), (.iconst 1, 1, 0, 0, []), (.bipush 9, 9, 0, 0, []), (.invokevirtual 195, 4, 0, 0, [])]
def blX9_compare_117 : List aIn := [(.aload_n 0, 0, 0, 0, []), (.getfield 88, 10, 9, 0, []), (.aload_n 0, 0, 0, 0, []), (.iconst 4, 4, 0, 0, []), (.bipush 9, 9, 0, 0, []), (.invokevirtual 58, 3, 0, 0, [])]
def blX9_compare_128 : List aIn := [(.imul, 0, 0, 0, []), (.ireturn, 0, 0, 0, [])]
def bkX9_compare : List (Nat × List aIn) := [(0, blX9_compare_0), (6, blX9_compare_6), (9, blX9_compare_9), (14, blX9_compare_14), (17, blX9_compare_17), (21, blX9_compare_21), (22, blX9_compare_22), (26, blX9_compare_26), (29, blX9_compare_29), (31, blX9_compare_31), (36, blX9_compare_36), (41, blX9_compare_41), (46, blX9_compare_46), (49, blX9_compare_49), (53, blX9_compare_53), (57, blX9_compare_57), (58, blX9_compare_58), (63, blX9_compare_63), (66, blX9_compare_66), (77, blX9_compare_77), (88, blX9_compare_88), (92, blX9_compare_92), (93, blX9_compare_93), (94, blX9_compare_94), (102, blX9_compare_102), (109, blX9_compare_109), (117, blX9_compare_117), (128, blX9_compare_128)]
theorem bqX9_compare_0 : aLook bkX9_compare 0 = some blX9_compare_0 := rfl
theorem bqX9_compare_6 : aLook bkX9_compare 6 = some blX9_compare_6 := rfl
theorem bqX9_compare_9 : aLook bkX9_compare 9 = some blX9_compare_9 := rfl
theorem bqX9_compare_14 : aLook bkX9_compare 14 = some blX9_compare_14 := rfl
theorem bqX9_compare_17 : aLook bkX9_compare 17 = some blX9_compare_17 := rfl
theorem bqX9_compare_21 : aLook bkX9_compare 21 = some blX9_compare_21 := rfl
theorem bqX9_compare_22 : aLook bkX9_compare 22 = some blX9_compare_22 := rfl
theorem bqX9_compare_26 : aLook bkX9_compare 26 = some blX9_compare_26 := rfl
theorem bqX9_compare_29 : aLook bkX9_compare 29 = some blX9_compare_29 := rfl
theorem bqX9_compare_31 : aLook bkX9_compare 31 = some blX9_compare_31 := rfl
theorem bqX9_compare_36 : aLook bkX9_compare 36 = some blX9_compare_36 := rfl
theorem bqX9_compare_41 : aLook bkX9_compare 41 = some blX9_compare_41 := rfl
theorem bqX9_compare_46 : aLook bkX9_compare 46 = some blX9_compare_46 := rfl
theorem bqX9_compare_49 : aLook bkX9_compare 49 = some blX9_compare_49 := rfl
theorem bqX9_compare_53 : aLook bkX9_compare 53 = some blX9_compare_53 := rfl
theorem bqX9_compare_57 : aLook bkX9_compare 57 = some blX9_compare_57 := rfl
theorem bqX9_compare_58 : aLook bkX9_compare 58 = some blX9_compare_58 := rfl
theorem bqX9_compare_63 : aLook bkX9_compare 63 = some blX9_compare_63 := rfl
theorem bqX9_compare_66 : aLook bkX9_compare 66 = some blX9_compare_66 := rfl
theorem bqX9_compare_77 : aLook bkX9_compare 77 = some blX9_compare_77 := rfl
theorem bqX9_compare_88 : aLook bkX9_compare 88 = some blX9_compare_88 := rfl
theorem bqX9_compare_92 : aLook bkX9_compare 92 = some blX9_compare_92 := rfl
theorem bqX9_compare_93 : aLook bkX9_compare 93 = some blX9_compare_93 := rfl
theorem bqX9_compare_94 : aLook bkX9_compare 94 = some blX9_compare_94 := rfl
theorem bqX9_compare_102 : aLook bkX9_compare 102 = some blX9_compare_102 := rfl
theorem bqX9_compare_109 : aLook bkX9_compare 109 = some blX9_compare_109 := rfl
theorem bqX9_compare_117 : aLook bkX9_compare 117 = some blX9_compare_117 := rfl
theorem bqX9_compare_128 : aLook bkX9_compare 128 = some blX9_compare_128 := rfl
theorem boX9_compare : ∀ pc is, aLook bkX9_compare pc = some is → aBlk RX9 cX9_compare 4 false pc is := aBks_ok (lk := lkX9) lkX9_ok (by decide +kernel)
def blX9_convert_0 : List aIn := [(.aload_n 0, 0, 0, 0, []), (.aload_n 0, 0, 0, 0, []), (.iload_n 1, 1, 0, 0, []), (.invokevirtual 74, 2, 0, 0, [])]
def blX9_convert_6 : List aIn := [(.ifCond .eq 11, 17, 0, 0, [])]
def blX9_convert_9 : List aIn := [(.aload_n 0, 0, 0, 0, []), (.iload_n 2, 2, 0, 0, []), (.invokevirtual 74, 2, 0, 0, [])]
def blX9_convert_14 : List aIn := [(.ifCond .ne 7, 21, 0, 0, [])]
def blX9_convert_17 : List aIn := [(.iconst 1, 1, 0, 0, []), (.goto 4, 22, 0, 0, [])]
def blX9_convert_21 : List aIn := [(.iconst 0, 0, 0, 0, [])]
def blX9_convert_22 : List aIn := [(.iconst 0, 0, 0, 0, []), (.invokevirtual 67, 3, 0, 0, [])]
def blX9_convert_26 : List aIn := [(.ifCond .eq 5, 31, 0, 0, [])]
def blX9_convert_29 : List aIn := [(.iconst 0, 0, 0, 0, []), (.ireturn, 0, 0, 0, [])]
def blX9_convert_31 : List aIn := [(.aload_n 0, 0, 0, 0, []), (.iload_n 1, 1, 0, 0, []), (.invokevirtual 124, 2, 0, 0, [])]
def blX9_convert_36 : List aIn := [(.ifCond .ne 5, 41, 0, 0, [])]
def blX9_convert_39 : List aIn := [(.iconst (-1), 1, 1, 0, []), (.ireturn, 0, 0, 0, [])]
def blX9_convert_41 : List aIn := [(.aload_n 0, 0, 0, 0, []), (.iconst 0, 0, 0, 0, []), (.iconst 4, 4, 0, 0, []), (.invokevirtual 47, 3, 0, 0, [])]
def blX9_convert_47 : List aIn := [(.aload_n 0, 0, 0, 0, []), (.iconst 1, 1, 0, 0, []), (.iconst 5, 5, 0, 0, []), (.invokevirtual 47, 3, 0, 0, [])]
def blX9_convert_53 : List aIn := [(.aload_n 0, 0, 0, 0, []), (.aload_n 0, 0, 0, 0, []), (.getfield 88, 10, 9, 0, []), (.putfield 127, 10, 11, 0, []), (.aload_n 0, 0, 0, 0, []), (.getfield 13, 10, 2, 2, []), (.iload_n 2, 2, 0, 0, []), (.iaload, 0, 0, 0, []), (.istore_n 3, 3, 0, 0, []), (.iload_n 3, 3, 0, 0, []), (.bipush 9, 9, 0, 0, []), (.if_icmp .eq 9, 80, 0, 0, [])]
def blX9_convert_74 : List aIn := [(.iload_n 3, 3, 0, 0, []), (.bipush 10, 10, 0, 0, []), (.if_icmp .ne 19, 96, 0, 0, [])]
def blX9_convert_80 : List aIn := [(.aload_n 0, 0, 0, 0, []), (.iload_n 2, 2, 0, 0, []), (.iconst 0, 0, 0, 0, []), (.invokevirtual 130, 3, 0, 0, [])]
def blX9_convert_86 : List aIn := [(.iconst 1, 1, 0, 0, []), (.if_icmp .ne 7, 94, 0, 0, [])]
def blX9_convert_90 : List aIn := [(.iconst 1, 1, 0, 0, []), (.goto 4, 95, 0, 0, [])]
def blX9_convert_94 : List aIn := [(.iconst 0, 0, 0, 0, [])]
def blX9_convert_95 : List aIn := [(.ireturn, 0, 0, 0, [])]
def blX9_convert_96 : List aIn := [(.aload_n 0, 0, 0, 0, []), (.iconst 4, 4, 0, 0, []), (.bipush 9, 9, 0, 0, []), (.invokevirtual 47, 3, 0, 0, [])]
def blX9_convert_103 : List aIn := [(.aload_n 0, 0, 0, 0, []), (.bipush 9, 9, 0, 0, []), (.aload_n 0, 0, 0, 0, []), (.getfield 20, 10, 4, 2, []), (.iload_n 2, 2, 0, 0, []), (.iaload, 0, 0, 0, []), (.invokevirtual 103, 3, 0, 0, [])]
def blX9_convert_115 : List aIn := [(.aload_n 0, 0, 0, 0, []), (.bipush 9, 9, 0, 0, []), (.iconst 5, 5, 0, 0, []), (.invokevirtual 134, 3, 0, 0, [])]
def blX9_convert_122 : List aIn := [(.aload_n 0, 0, 0, 0, []), (.bipush 7, 7, 0, 0, []), (.invokevirtual 106, 2, 0, 0, [])]
def blX9_convert_128 : List aIn := [(.istore 4, 4, 0, 0, []), (.aload_n 0, 0, 0, 0, []), (.getfield 127, 10, 11, 0, []), (.ifCond .ge 16, 150, 0, 0, [])]
def blX9_convert_137 : List aIn := [(.aload_n 0, 0, 0, 0, []), (.bipush 6, 6, 0, 0, []), (.invokevirtual 106, 2, 0, 0, [])]
def blX9_convert_143 : List aIn := [(.ifCond .ne 7, 150, 0, 0, [])]
def blX9_convert_146 : List aIn := [(.iconst (-1), 1, 1, 0, []), (.goto 4, 151, 0, 0, [])]
def blX9_convert_150 : List aIn := [(.iconst 1, 1, 0, 0, [])]
def blX9_convert_151 : List aIn := [(.istore 5, 5, 0, 0, []), (.iload 4, 4, 0, 0, []), (.ifCond .eq 33, 188, 0, 0, [])]
def blX9_convert_158 : List aIn := [(.aload_n 0, 0, 0, 0, []), (.iload_n 2, 2, 0, 0, []), (.iload 5, 5, 0, 0, []), (.invokevirtual 140, 3, 0, 0, [])]
def blX9_convert_165 : List aIn := [(.ifCond .eq 23, 188, 0, 0, [])]
def blX9_convert_168 : List aIn := [(.iload 5, 5, 0, 0, []), (.ifCond .ge 14, 184, 0, 0, [])]
def blX9_convert_173 : List aIn := [(.iload_n 3, 3, 0, 0, []), (.iconst 4, 4, 0, 0, []), (.if_icmp .eq 13, 188, 0, 0, [])]
def blX9_convert_178 : List aIn := [(.iload_n 3, 3, 0, 0, []), (.bipush 6, 6, 0, 0, []), (.if_icmp .eq 7, 188, 0, 0, [])]
def blX9_convert_184 : List aIn := [(.iconst 1, 1, 0, 0, []), (.goto 4, 189, 0, 0, [])]
def blX9_convert_188 : List aIn := [(.iconst 0, 0, 0, 0, [])]
def blX9_convert_189 : List aIn := [(.istore 4, 4, 0, 0, []), (.iload_n 3, 3, 0, 0, []), (.bipush 8, 8, 0, 0, []), (.if_icmp .eq 63, 257, 0, 0, [])]
def blX9_convert_197 : List aIn := [(.aload_n 0, 0, 0, 0, []), (.bipush 8, 8, 0, 0, []), (.iconst 1, 1, 0, 0, []), (.invokevirtual 85, 3, 0, 0, [])]
def blX9_convert_204 : List aIn := [(.aload_n 0, 0, 0, 0, []), (.bipush 8, 8, 0, 0, []), (.aload_n 0, 0, 0, 0, []), (.getfield 17, 10, 3, 2, []), (.iload_n 2, 2, 0, 0, []), (.iaload, 0, 0, 0, []), (.invokevirtual 103, 3, 0, 0, [])]
def blX9_convert_216 : List aIn := [(.aload_n 0, 0, 0, 0, []), (.bipush 6, 6, 0, 0, []), (.bipush 9, 9, 0, 0, []), (.invokevirtual 47, 3, 0, 0, [])]
def blX9_convert_224 : List aIn := [(.aload_n 0, 0, 0, 0, []), (.bipush 9, 9, 0, 0, []), (.bipush 8, 8, 0, 0, []), (.invokevirtual 134, 3, 0, 0, [])]
def blX9_convert_232 : List aIn := [(.aload_n 0, 0, 0, 0, []), (.bipush 7, 7, 0, 0, []), (.bipush 6, 6, 0, 0, []), (.invokevirtual 47, 3, 0, 0, [])]
def blX9_convert_240 : List aIn := [(.aload_n 0, 0, 0, 0, []), (.bipush 6, 6, 0, 0, []), (.invokevirtual 106, 2, 0, 0, [])]
def blX9_convert_246 : List aIn := [(.ifCond .eq 7, 253, 0, 0, [])]
def blX9_convert_249 : List aIn := [(.iconst 1, 1, 0, 0, []), (.goto 5, 255, 0, 0, [])]
def blX9_convert_253 : List aIn := [(.iload 5, 5, 0, 0, [])]
def blX9_convert_255 : List aIn := [(.istore 5, 5, 0, 0, [])]
def blX9_convert_257 : List aIn := [(.aload_n 0, 0, 0, 0, []), (.iload_n 2, 2, 0, 0, []), (.iload 5, 5, 0, 0, []), (.invokevirtual 143, 3, 0, 0, [])]
def blX9_convert_264 : List aIn := [(.iload 4, 4, 0, 0, []), (.ifCond .eq 7, 273, 0, 0, [])]
def blX9_convert_269 : List aIn := [(.iconst 1, 1, 0, 0, []), (.goto 4, 274, 0, 0, [])]
def blX9_convert_273 : List aIn := [(.iconst 0, 0, 0, 0, [])]
def blX9_convert_274 : List aIn := [(.ireturn, 0, 0, 0, [])]
def bkX9_convert : List (Nat × List aIn) := [(0, blX9_convert_0), (6, blX9_convert_6), (9, blX9_convert_9), (14, blX9_convert_14), (17, blX9_convert_17), (21, blX9_convert_21), (22, blX9_convert_22), (26, blX9_convert_26), (29, blX9_convert_29), (31, blX9_convert_31), (36, blX9_convert_36), (39, blX9_convert_39), (41, blX9_convert_41), (47, blX9_convert_47), (53, blX9_convert_53), (74, blX9_convert_74), (80, blX9_convert_80), (86, blX9_convert_86), (90, blX9_convert_90), (94, blX9_convert_94), (95, blX9_convert_95), (96, blX9_convert_96), (103, blX9_convert_103), (115, blX9_convert_115), (122, blX9_convert_122), (128, blX9_convert_128), (137, blX9_convert_137), (143, blX9_convert_143), (146, blX9_convert_146), (150, blX9_convert_150), (151, blX9_convert_151), (158, blX9_convert_158), (165, blX9_convert_165), (168, blX9_convert_168), (173, blX9_convert_173), (178, blX9_convert_178), (184, blX9_convert_184), (188, blX9_convert_188), (189, blX9_convert_189), (197, blX9_convert_197), (204, blX9_convert_204), (216, blX9_convert_216), (224, blX9_convert_224), (232, blX9_convert_232), (240, blX9_convert_240), (246, blX9_convert_246), (249, blX9_convert_249), (253, blX9_convert_253), (255, blX9_convert_255), (257, blX9_convert_257), (264, blX9_convert_264), (269, blX9_convert_269), (273, blX9_convert_273), (274, blX9_convert_274)]
theorem bqX9_convert_0 : aLook bkX9_convert 0 = some blX9_convert_0 := rfl
theorem bqX9_convert_6 : aLook bkX9_convert 6 = some blX9_convert_6 := rfl
theorem bqX9_convert_9 : aLook bkX9_convert 9 = some blX9_convert_9 := rfl
theorem bqX9_convert_14 : aLook bkX9_convert 14 = some blX9_convert_14 := rfl
theorem bqX9_convert_17 : aLook bkX9_convert 17 = some blX9_convert_17 := rfl
theorem bqX9_convert_21 : aLook bkX9_convert 21 = some blX9_convert_21 := rfl
theorem bqX9_convert_22 : aLook bkX9_convert 22 = some blX9_convert_22 := rfl
theorem bqX9_convert_26 : aLook bkX9_convert 26 = some blX9_convert_26 := rfl
theorem bqX9_convert_29 : aLook bkX9_convert 29 = some blX9_convert_29 := rfl
theorem bqX9_convert_31 : aLook bkX9_convert 31 = some blX9_convert_31 := rfl
theorem bqX9_convert_36 : aLook bkX9_convert 36 = some blX9_convert_36 := rfl
theorem bqX9_convert_39 : aLook bkX9_convert 39 = some blX9_convert_39 := rfl
theorem bqX9_convert_41 : aLook bkX9_convert 41 = some blX9_convert_41 := rfl
theorem bqX9_convert_47 : aLook bkX9_convert 47 = some blX9_convert_47 := rfl
theorem bqX9_convert_53 : aLook bkX9_convert 53 = some blX9_convert_53 := rfl
theorem bqX9_convert_74 : aLook bkX9_convert 74 = some blX9_convert_74 := rfl
theorem bqX9_convert_80 : aLook bkX9_convert 80 = some blX9_convert_80 := rfl
theorem bqX9_convert_86 : aLook bkX9_convert 86 = some blX9_convert_86 := rfl
theorem bqX9_convert_90 : aLook bkX9_convert 90 = some blX9_convert_90 := rfl
theorem bqX9_convert_94 : aLook bkX9_convert 94 = some blX9_convert_94 := rfl
theorem bqX9_convert_95 : aLook bkX9_convert 95 = some blX9_convert_95 := rfl
theorem bqX9_convert_96 : aLook bkX9_convert 96 = some blX9_convert_96 := rfl
theorem bqX9_convert_103 : aLook bkX9_convert 103 = some blX9_convert_103 := rfl
theorem bqX9_convert_115 : aLook bkX9_convert 115 = some blX9_convert_115 := rfl
theorem bqX9_convert_122 : aLook bkX9_convert 122 = some blX9_convert_122 := rfl
theorem bqX9_convert_128 : aLook bkX9_convert 128 = some blX9_convert_128 := rfl
theorem bqX9_convert_137 : aLook bkX9_convert 137 = some blX9_convert_137 := rfl
theorem bqX9_convert_143 : aLook bkX9_convert 143 = some blX9_convert_143 := rfl
theorem bqX9_convert_146 : aLook bkX9_convert 146 = some blX9_convert_146 := rfl
theorem bqX9_convert_150 : aLook bkX9_convert 150 = some blX9_convert_150 := rfl
theorem bqX9_convert_151 : aLook bkX9_convert 151 = some blX9_convert_151 := rfl
theorem bqX9_convert_158 : aLook bkX9_convert 158 = some blX9_convert_158 := rfl
theorem bqX9_convert_165 : aLook bkX9_convert 165 = some blX9_convert_165 := rfl
theorem bqX9_convert_168 : aLook bkX9_convert 168 = some blX9_convert_168 := rfl
theorem bqX9_convert_173 : aLook bkX9_convert 173 = some blX9_convert_173 := rfl
theorem bqX9_convert_178 : aLook bkX9_convert 178 = some blX9_convert_178 := rfl
theorem bqX9_convert_184 : aLook bkX9_convert 184 = some blX9_convert_184 := rfl
theorem bqX9_convert_188 : aLook bkX9_convert 188 = some blX9_convert_188 := rfl
theorem bqX9_convert_189 : aLook bkX9_convert 189 = some blX9_convert_189 := rfl
theorem bqX9_convert_197 : aLook bkX9_convert 197 = some blX9_convert_197 := rfl
theorem bqX9_convert_204 : aLook bkX9_convert 204 = some blX9_convert_204 := rfl
theorem bqX9_convert_216 : aLook bkX9_convert 216 = some blX9_convert_216 := rfl
theorem bqX9_convert_224 : aLook bkX9_convert 224 = some blX9_convert_224 := rfl
theorem bqX9_convert_232 : aLook bkX9_convert 232 = some blX9_convert_232 := rfl
theorem bqX9_convert_240 : aLook bkX9_convert 240 = some blX9_convert_240 := rfl
theorem bqX9_convert_246 : aLook bkX9_convert 246 = some blX9_convert_246 := rfl
theorem bqX9_convert_249 : aLook bkX9_convert 249 = some blX9_convert_249 := rfl
theorem bqX9_convert_253 : aLook bkX9_convert 253 = some blX9_convert_253 := rfl
theorem bqX9_convert_255 : aLook bkX9_convert 255 = some blX9_convert_255 := rfl
theorem bqX9_convert_257 : aLook bkX9_convert 257 = some blX9_convert_257 := rfl
theorem bqX9_convert_264 : aLook bkX9_convert 264 = some blX9_convert_264 := rfl
theorem bqX9_convert_269 : aLook bkX9_convert 269 = some blX9_convert_269 := rfl
theorem bqX9_convert_273 : aLook bkX9_convert 273 = some blX9_convert_273 := rfl
theorem bqX9_convert_274 : aLook bkX9_convert 274 = some blX9_convert_274 := rfl
theorem boX9_convert : ∀ pc is, aLook bkX9_convert pc = some is → aBlk RX9 cX9_convert 6 false pc is := aBks_ok (lk := lkX9) lkX9_ok (by decide +kernel)
def blX9_digit_0 : List aIn := [(.aload_n 0, 0, 0, 0, []), (.aload_n 0, 0, 0, 0, []), (.iload_n 1, 1, 0, 0, []), (.invokevirtual 74, 2, 0, 0, [])]
def blX9_digit_6 : List aIn := [(.ifCond .ne 7, 13, 0, 0, [])]
def blX9_digit_9 : List aIn := [(.iconst 1, 1, 0, 0, []), (.goto 4, 14, 0, 0, [])]
def blX9_digit_13 : List aIn := [(.iconst 0, 0, 0, 0, [])]
def blX9_digit_14 : List aIn := [(.iconst 0, 0, 0, 0, []), (.invokevirtual 67, 3, 0, 0, [])]
def blX9_digit_18 : List aIn := [(.ifCond .eq 5, 23, 0, 0, [])]
def blX9_digit_21 : List aIn := [(.iconst 0, 0, 0, 0, []), (.ireturn, 0, 0, 0, [])]
def blX9_digit_23 : List aIn := [(.aload_n 0, 0, 0, 0, []), (.iload_n 1, 1, 0, 0, []), (.invokevirtual 124, 2, 0, 0, [])]
def blX9_digit_28 : List aIn := [(.istore_n 3, 3, 0, 0, []), (.aload_n 0, 0, 0, 0, []), (.getfield 13, 10, 2, 2, []), (.iload_n 1, 1, 0, 0, []), (.iaload, 0, 0, 0, []), (.istore 4, 4, 0, 0, []), (.iload_n 2, 2, 0, 0, []), (.ifCond .lt 27, 65, 0, 0, [])]
def blX9_digit_41 : List aIn := [(.iload_n 2, 2, 0, 0, []), (.bipush 38, 38, 0, 0, []), (.if_icmp .gt 21, 65, 0, 0, [])]
def blX9_digit_47 : List aIn := [(.iload 4, 4, 0, 0, []), (.bipush 9, 9, 0, 0, []), (.if_icmp .eq 14, 65, 0, 0, [])]
def blX9_digit_54 : List aIn := [(.iload 4, 4, 0, 0, []), (.bipush 10, 10, 0, 0, []), (.if_icmp .eq 7, 65, 0, 0, [])]
def blX9_digit_61 : List aIn := [(.iload_n 3, 3, 0, 0, []), (.ifCond .ne 5, 67, 0, 0, [])]
def blX9_digit_65 : List aIn := [(.iconst (-1), 1, 1, 0, []), (.ireturn, 0, 0, 0, [])]
def blX9_digit_67 : List aIn := [(.aload_n 0, 0, 0, 0, []), (.iconst 0, 0, 0, 0, []), (.bipush 9, 9, 0, 0, []), (.invokevirtual 47, 3, 0, 0, [])]
def blX9_digit_74 : List aIn := [(.aload_n 0, 0, 0, 0, []), (.bipush 8, 8, 0, 0, []), (.bipush 10, 10, 0, 0, []), (.invokevirtual 85, 3, 0, 0, [])]
def blX9_digit_82 : List aIn := [(.iconst 0, 0, 0, 0, []), (.istore 5, 5, 0, 0, [])]
def blX9_digit_85 : List aIn := [(.iload 5, 5, 0, 0, []), (.iload_n 2, 2, 0, 0, []), (.if_icmp .ge 25, 113, 0, 0, [])]
def blX9_digit_91 : List aIn := [(.aload_n 0, 0, 0, 0, []), (.bipush 9, 9, 0, 0, []), (.bipush 8, 8, 0, 0, []), (.invokevirtual 134, 3, 0, 0, [])]
def blX9_digit_99 : List aIn := [(.aload_n 0, 0, 0, 0, []), (.bipush 6, 6, 0, 0, []), (.bipush 9, 9, 0, 0, []), (.invokevirtual 47, 3, 0, 0, [])]
def blX9_digit_107 : List aIn := [(.iinc 5 1, 5, 0, 0, []), (.goto (-25), 85, 0, 0, [])]
def blX9_digit_113 : List aIn := [(.aload_n 0, 0, 0, 0, []), (.bipush 9, 9, 0, 0, []), (.bipush 8, 8, 0, 0, []), (.invokevirtual 134, 3, 0, 0, [])]
def blX9_digit_121 : List aIn := [(.aload_n 0, 0, 0, 0, []), (.getfield 29, 10, 8, 2, []), (.sipush 560, 560, 0, 0, []), (.iaload, 0, 0, 0, []), (.ireturn, 0, 0, 0, [])]
def bkX9_digit : List (Nat × List aIn) := [(0, blX9_digit_0), (6, blX9_digit_6), (9, blX9_digit_9), (13, blX9_digit_13), (14, blX9_digit_14), (18, blX9_digit_18), (21, blX9_digit_21), (23, blX9_digit_23), (28, blX9_digit_28), (41, blX9_digit_41), (47, blX9_digit_47), (54, blX9_digit_54), (61, blX9_digit_61), (65, blX9_digit_65), (67, blX9_digit_67), (74, blX9_digit_74), (82, blX9_digit_82), (85, blX9_digit_85), (91, blX9_digit_91), (99, blX9_digit_99), (107, blX9_digit_107), (113, blX9_digit_113), (121, blX9_digit_121)]
theorem bqX9_digit_0 : aLook bkX9_digit 0 = some blX9_digit_0 := rfl
theorem bqX9_digit_6 : aLook bkX9_digit 6 = some blX9_digit_6 := rfl
theorem bqX9_digit_9 : aLook bkX9_digit 9 = some blX9_digit_9 := rfl
theorem bqX9_digit_13 : aLook bkX9_digit 13 = some blX9_digit_13 := rfl
theorem bqX9_digit_14 : aLook bkX9_digit 14 = some blX9_digit_14 := rfl
theorem bqX9_digit_18 : aLook bkX9_digit 18 = some blX9_digit_18 := rfl
theorem bqX9_digit_21 : aLook bkX9_digit 21 = some blX9_digit_21 := rfl
theorem bqX9_digit_23 : aLook bkX9_digit 23 = some blX9_digit_23 := rfl
theorem bqX9_digit_28 : aLook bkX9_digit 28 = some blX9_digit_28 := rfl
theorem bqX9_digit_41 : aLook bkX9_digit 41 = some blX9_digit_41 := rfl
theorem bqX9_digit_47 : aLook bkX9_digit 47 = some blX9_digit_47 := rfl
theorem bqX9_digit_54 : aLook bkX9_digit 54 = some blX9_digit_54 := rfl
theorem bqX9_digit_61 : aLook bkX9_digit 61 = some blX9_digit_61 := rfl
theorem bqX9_digit_65 : aLook bkX9_digit 65 = some blX9_digit_65 := rfl
theorem bqX9_digit_67 : aLook bkX9_digit 67 = some blX9_digit_67 := rfl
theorem bqX9_digit_74 : aLook bkX9_digit 74 = some blX9_digit_74 := rfl
theorem bqX9_digit_82 : aLook bkX9_digit 82 = some blX9_digit_82 := rfl
theorem bqX9_digit_85 : aLook bkX9_digit 85 = some blX9_digit_85 := rfl
theorem bqX9_digit_91 : aLook bkX9_digit 91 = some blX9_digit_91 := rfl
theorem bqX9_digit_99 : aLook bkX9_digit 99 = some blX9_digit_99 := rfl
theorem bqX9_digit_107 : aLook bkX9_digit 107 = some blX9_digit_107 := rfl
theorem bqX9_digit_113 : aLook bkX9_digit 113 = some blX9_digit_113 := rfl
theorem bqX9_digit_121 : aLook bkX9_digit 121 = some blX9_digit_121 := rfl
theorem boX9_digit : ∀ pc is, aLook bkX9_digit pc = some is → aBlk RX9 cX9_digit 6 false pc is := aBks_ok (lk := lkX9) lkX9_ok (by decide +kernel)
def blX9_round_0 : List aIn := [(.aload_n 0, 0, 0, 0, []), (.aload_n 0, 0, 0, 0, []), (.iload_n 1, 1, 0, 0, []), (.invokevirtual 74, 2, 0, 0, [])]
def blX9_round_6 : List aIn := [(.ifCond .ne 7, 13, 0, 0, [])]
def blX9_round_9 : List aIn := [(.iconst 1, 1, 0, 0, []), (.goto 4, 14, 0, 0, [])]
def blX9_round_13 : List aIn := [(.iconst 0, 0, 0, 0, [])]
def blX9_round_14 : List aIn := [(.iconst 0, 0, 0, 0, []), (.invokevirtual 67, 3, 0, 0, [])]
def blX9_round_18 : List aIn := [(.ifCond .eq 5, 23, 0, 0, [])]
def blX9_round_21 : List aIn := [(.iconst 0, 0, 0, 0, []), (.ireturn, 0, 0, 0, [])]
def blX9_round_23 : List aIn := [(.iload_n 2, 2, 0, 0, []), (.ifCond .lt 9, 33, 0, 0, [])]
def blX9_round_27 : List aIn := [(.iload_n 2, 2, 0, 0, []), (.bipush 7, 7, 0, 0, []), (.if_icmp .le 5, 35, 0, 0, [])]
def blX9_round_33 : List aIn := [(.iconst (-1), 1, 1, 0, []), (.ireturn, 0, 0, 0, [])]
def blX9_round_35 : List aIn := [(.aload_n 0, 0, 0, 0, []), (.getfield 26, 10, 6, 2, []), (.iload_n 1, 1, 0, 0, []), (.iaload, 0, 0, 0, []), (.istore_n 3, 3, 0, 0, []), (.aload_n 0, 0, 0, 0, []), (.getfield 26, 10, 6, 2, []), (.iload_n 1, 1, 0, 0, []), (.iload_n 2, 2, 0, 0, []), (.iastore, 0, 0, 0, []), (.iload_n 3, 3, 0, 0, []), (.ireturn, 0, 0, 0, [])]
def bkX9_round : List (Nat × List aIn) := [(0, blX9_round_0), (6, blX9_round_6), (9, blX9_round_9), (13, blX9_round_13), (14, blX9_round_14), (18, blX9_round_18), (21, blX9_round_21), (23, blX9_round_23), (27, blX9_round_27), (33, blX9_round_33), (35, blX9_round_35)]
theorem bqX9_round_0 : aLook bkX9_round 0 = some blX9_round_0 := rfl
theorem bqX9_round_6 : aLook bkX9_round 6 = some blX9_round_6 := rfl
theorem bqX9_round_9 : aLook bkX9_round 9 = some blX9_round_9 := rfl
theorem bqX9_round_13 : aLook bkX9_round 13 = some blX9_round_13 := rfl
theorem bqX9_round_14 : aLook bkX9_round 14 = some blX9_round_14 := rfl
theorem bqX9_round_18 : aLook bkX9_round 18 = some blX9_round_18 := rfl
theorem bqX9_round_21 : aLook bkX9_round 21 = some blX9_round_21 := rfl
theorem bqX9_round_23 : aLook bkX9_round 23 = some blX9_round_23 := rfl
theorem bqX9_round_27 : aLook bkX9_round 27 = some blX9_round_27 := rfl
theorem bqX9_round_33 : aLook bkX9_round 33 = some blX9_round_33 := rfl
theorem bqX9_round_35 : aLook bkX9_round 35 = some blX9_round_35 := rfl
theorem boX9_round : ∀ pc is, aLook bkX9_round pc = some is → aBlk RX9 cX9_round 4 false pc is := aBks_ok (lk := lkX9) lkX9_ok (by decide +kernel)
def blX9_half_0 : List aIn := [(.aload_n 0, 0, 0, 0, []), (.aload_n 0, 0, 0, 0, []), (.iload_n 1, 1, 0, 0, []), (.invokevirtual 74, 2, 0, 0, [])]
def blX9_half_6 : List aIn := [(.ifCond .ne 7, 13, 0, 0, [])]
def blX9_half_9 : List aIn := [(.iconst 1, 1, 0, 0, []), (.goto 4, 14, 0, 0, [])]
def blX9_half_13 : List aIn := [(.iconst 0, 0, 0, 0, [])]
def blX9_half_14 : List aIn := [(.iconst 0, 0, 0, 0, []), (.invokevirtual 67, 3, 0, 0, [])]
def blX9_half_18 : List aIn := [(.ifCond .eq 5, 23, 0, 0, [])]
def blX9_half_21 : List aIn := [(.iconst 0, 0, 0, 0, []), (.ireturn, 0, 0, 0, [])]
def blX9_half_23 : List aIn := [(.aload_n 0, 0, 0, 0, []), (.iload_n 1, 1, 0, 0, []), (.invokevirtual 124, 2, 0, 0, [])]
def blX9_half_28 : List aIn := [(.ifCond .eq 12, 40, 0, 0, [])]
def blX9_half_31 : List aIn := [(.aload_n 0, 0, 0, 0, []), (.invokevirtual 185, 1, 0, 0, [])]
def blX9_half_35 : List aIn := [(.l2i, 0, 0, 0, []), (.i2s, 0, 0, 0, []), (.goto 4, 41, 0, 0, [])]
def blX9_half_40 : List aIn := [(.iconst 0, 0, 0, 0, [])]
def blX9_half_41 : List aIn := [(.ireturn, 0, 0, 0, [])]
def bkX9_half : List (Nat × List aIn) := [(0, blX9_half_0), (6, blX9_half_6), (9, blX9_half_9), (13, blX9_half_13), (14, blX9_half_14), (18, blX9_half_18), (21, blX9_half_21), (23, blX9_half_23), (28, blX9_half_28), (31, blX9_half_31), (35, blX9_half_35), (40, blX9_half_40), (41, blX9_half_41)]
theorem bqX9_half_0 : aLook bkX9_half 0 = some blX9_half_0 := rfl
theorem bqX9_half_6 : aLook bkX9_half 6 = some blX9_half_6 := rfl
theorem bqX9_half_9 : aLook bkX9_half 9 = some blX9_half_9 := rfl
theorem bqX9_half_13 : aLook bkX9_half 13 = some blX9_half_13 := rfl
theorem bqX9_half_14 : aLook bkX9_half 14 = some blX9_half_14 := rfl
theorem bqX9_half_18 : aLook bkX9_half 18 = some blX9_half_18 := rfl
theorem bqX9_half_21 : aLook bkX9_half 21 = some blX9_half_21 := rfl
theorem bqX9_half_23 : aLook bkX9_half 23 = some blX9_half_23 := rfl
theorem bqX9_half_28 : aLook bkX9_half 28 = some blX9_half_28 := rfl
theorem bqX9_half_31 : aLook bkX9_half 31 = some blX9_half_31 := rfl
theorem bqX9_half_35 : aLook bkX9_half 35 = some blX9_half_35 := rfl
theorem bqX9_half_40 : aLook bkX9_half 40 = some blX9_half_40 := rfl
theorem bqX9_half_41 : aLook bkX9_half 41 = some blX9_half_41 := rfl
theorem boX9_half : ∀ pc is, aLook bkX9_half pc = some is → aBlk RX9 cX9_half 2 false pc is := aBks_ok (lk := lkX9) lkX9_ok (by decide +kernel)
