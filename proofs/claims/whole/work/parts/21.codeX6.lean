/-! code of PackedDecimals$Storage (printed by gen.py) -/
def blX6_init_0 : List aIn := [(.aload_n 0, 0, 0, 0, []), (.invokespecial 3, 1, 0, 0, [])]
def blX6_init_4 : List aIn := [(.aload_n 0, 0, 0, 0, []), (.new 9, 8, 0, 0, []), (.dup, 0, 0, 0, []), (.invokespecial 11, 1, 0, 0, [])]
def blX6_init_12 : List aIn := [(.putfield 12, 7, 0, 2, []), (.aload_n 0, 0, 0, 0, []), (.new 18, 4, 2, 0, [2, 0]), (.dup, 0, 0, 0, []), (.invokespecial 20, 1, 0, 0, [])]
def blX6_init_23 : List aIn := [(.putfield 21, 7, 1, 2, []), (.aload_n 0, 0, 0, 0, []), (.new 18, 4, 2, 0, [2, 0]), (.dup, 0, 0, 0, []), (.invokespecial 20, 1, 0, 0, [])]
def blX6_init_34 : List aIn := [(.putfield 25, 7, 2, 2, []), (.aload_n 0, 0, 0, 0, []), (.new 18, 4, 2, 0, [2, 0]), (.dup, 0, 0, 0, []), (.invokespecial 20, 1, 0, 0, [])]
def blX6_init_45 : List aIn := [(.putfield 28, 7, 3, 2, []), (.aload_n 0, 0, 0, 0, []), (.new 18, 4, 2, 0, [2, 0]), (.dup, 0, 0, 0, []), (.invokespecial 20, 1, 0, 0, [])]
def blX6_init_56 : List aIn := [(.putfield 31, 7, 4, 2, []), (.return_, 0, 0, 0, [])]
def bkX6_init : List (Nat × List aIn) := [(0, blX6_init_0), (4, blX6_init_4), (12, blX6_init_12), (23, blX6_init_23), (34, blX6_init_34), (45, blX6_init_45), (56, blX6_init_56)]
theorem bqX6_init_0 : aLook bkX6_init 0 = some blX6_init_0 := rfl
theorem bqX6_init_4 : aLook bkX6_init 4 = some blX6_init_4 := rfl
theorem bqX6_init_12 : aLook bkX6_init 12 = some blX6_init_12 := rfl
theorem bqX6_init_23 : aLook bkX6_init 23 = some blX6_init_23 := rfl
theorem bqX6_init_34 : aLook bkX6_init 34 = some blX6_init_34 := rfl
theorem bqX6_init_45 : aLook bkX6_init 45 = some blX6_init_45 := rfl
theorem bqX6_init_56 : aLook bkX6_init 56 = some blX6_init_56 := rfl
theorem boX6_init : ∀ pc is, aLook bkX6_init pc = some is → aBlk RX6 cX6_init 1 true pc is := aBks_ok (lk := lkX6i) lkX6i_ok (by decide +kernel)
def blX6_store_0 : List aIn := [(.aload_n 1, 1, 0, 0, []), (.invokevirtual 34, 1, 0, 0, [])]
def blX6_store_4 : List aIn := [(.ifCond .eq 10, 14, 0, 0, [])]
def blX6_store_7 : List aIn := [(.aload_n 0, 0, 0, 0, []), (.aload_n 1, 1, 0, 0, []), (.aload_n 2, 2, 0, 0, []), (.invokevirtual 40, 3, 0, 0, [])]
def blX6_store_13 : List aIn := [(.ireturn, 0, 0, 0, [])]
def blX6_store_14 : List aIn := [(.aload_n 0, 0, 0, 0, []), (.aload_n 2, 2, 0, 0, []), (.aload_n 1, 1, 0, 0, []), (.getfield 44, 5, 2, 0, []), (.invokevirtual 48, 3, 0, 0, [])]
def blX6_store_23 : List aIn := [(.aload_n 0, 0, 0, 0, []), (.getfield 25, 7, 2, 2, []), (.invokevirtual 52, 1, 0, 0, [])]
def blX6_store_30 : List aIn := [(.ifCond .ne 35, 65, 0, 0, [])]
def blX6_store_33 : List aIn := [(.aload_n 1, 1, 0, 0, []), (.getfield 55, 5, 4, 0, []), (.bipush 7, 7, 0, 0, []), (.if_icmp .ne 5, 44, 0, 0, [])]
def blX6_store_42 : List aIn := [(.iconst 0, 0, 0, 0, []), (.ireturn, 0, 0, 0, [])]
def blX6_store_44 : List aIn := [(.aload_n 0, 0, 0, 0, []), (.aload_n 1, 1, 0, 0, []), (.getfield 55, 5, 4, 0, []), (.aload_n 2, 2, 0, 0, []), (.invokevirtual 58, 3, 0, 0, [])]
def blX6_store_53 : List aIn := [(.ifCond .eq 12, 65, 0, 0, [])]
def blX6_store_56 : List aIn := [(.aload_n 0, 0, 0, 0, []), (.getfield 21, 7, 1, 2, []), (.iconst 1, 1, 0, 0, []), (.iconst 1, 1, 0, 0, []), (.invokevirtual 62, 3, 0, 0, [])]
def blX6_store_65 : List aIn := [(.aload_n 2, 2, 0, 0, []), (.getfield 66, 3, 0, 1, []), (.ifCond .eq 24, 93, 0, 0, [])]
def blX6_store_72 : List aIn := [(.aload_n 1, 1, 0, 0, []), (.invokevirtual 72, 1, 0, 0, [])]
def blX6_store_76 : List aIn := [(.ifCond .ne 17, 93, 0, 0, [])]
def blX6_store_79 : List aIn := [(.aload_n 0, 0, 0, 0, []), (.getfield 21, 7, 1, 2, []), (.invokevirtual 52, 1, 0, 0, [])]
def blX6_store_86 : List aIn := [(.ifCond .ne 7, 93, 0, 0, [])]
def blX6_store_89 : List aIn := [(.iconst 1, 1, 0, 0, []), (.goto 4, 94, 0, 0, [])]
def blX6_store_93 : List aIn := [(.iconst 0, 0, 0, 0, [])]
def blX6_store_94 : List aIn := [(.istore_n 3, 3, 0, 0, []), (.aload_n 0, 0, 0, 0, []), (.aload_n 1, 1, 0, 0, []), (.iload_n 3, 3, 0, 0, []), (.invokevirtual 75, 3, 0, 0, [])]
def blX6_store_101 : List aIn := [(.ifCond .ne 5, 106, 0, 0, [])]
def blX6_store_104 : List aIn := [(.iconst 0, 0, 0, 0, []), (.ireturn, 0, 0, 0, [])]
def blX6_store_106 : List aIn := [(.aload_n 0, 0, 0, 0, []), (.getfield 12, 7, 0, 2, []), (.aload_n 1, 1, 0, 0, []), (.aload_n 0, 0, 0, 0, []), (.getfield 21, 7, 1, 2, []), (.iload_n 3, 3, 0, 0, []), (.invokevirtual 79, 4, 0, 0, [])]
def blX6_store_119 : List aIn := [(.iconst 1, 1, 0, 0, []), (.ireturn, 0, 0, 0, [])]
def bkX6_store : List (Nat × List aIn) := [(0, blX6_store_0), (4, blX6_store_4), (7, blX6_store_7), (13, blX6_store_13), (14, blX6_store_14), (23, blX6_store_23), (30, blX6_store_30), (33, blX6_store_33), (42, blX6_store_42), (44, blX6_store_44), (53, blX6_store_53), (56, blX6_store_56), (65, blX6_store_65), (72, blX6_store_72), (76, blX6_store_76), (79, blX6_store_79), (86, blX6_store_86), (89, blX6_store_89), (93, blX6_store_93), (94, blX6_store_94), (101, blX6_store_101), (104, blX6_store_104), (106, blX6_store_106), (119, blX6_store_119)]
theorem bqX6_store_0 : aLook bkX6_store 0 = some blX6_store_0 := rfl
theorem bqX6_store_4 : aLook bkX6_store 4 = some blX6_store_4 := rfl
theorem bqX6_store_7 : aLook bkX6_store 7 = some blX6_store_7 := rfl
theorem bqX6_store_13 : aLook bkX6_store 13 = some blX6_store_13 := rfl
theorem bqX6_store_14 : aLook bkX6_store 14 = some blX6_store_14 := rfl
theorem bqX6_store_23 : aLook bkX6_store 23 = some blX6_store_23 := rfl
theorem bqX6_store_30 : aLook bkX6_store 30 = some blX6_store_30 := rfl
theorem bqX6_store_33 : aLook bkX6_store 33 = some blX6_store_33 := rfl
theorem bqX6_store_42 : aLook bkX6_store 42 = some blX6_store_42 := rfl
theorem bqX6_store_44 : aLook bkX6_store 44 = some blX6_store_44 := rfl
theorem bqX6_store_53 : aLook bkX6_store 53 = some blX6_store_53 := rfl
theorem bqX6_store_56 : aLook bkX6_store 56 = some blX6_store_56 := rfl
theorem bqX6_store_65 : aLook bkX6_store 65 = some blX6_store_65 := rfl
theorem bqX6_store_72 : aLook bkX6_store 72 = some blX6_store_72 := rfl
theorem bqX6_store_76 : aLook bkX6_store 76 = some blX6_store_76 := rfl
theorem bqX6_store_79 : aLook bkX6_store 79 = some blX6_store_79 := rfl
theorem bqX6_store_86 : aLook bkX6_store 86 = some blX6_store_86 := rfl
theorem bqX6_store_89 : aLook bkX6_store 89 = some blX6_store_89 := rfl
theorem bqX6_store_93 : aLook bkX6_store 93 = some blX6_store_93 := rfl
theorem bqX6_store_94 : aLook bkX6_store 94 = some blX6_store_94 := rfl
theorem bqX6_store_101 : aLook bkX6_store 101 = some blX6_store_101 := rfl
theorem bqX6_store_104 : aLook bkX6_store 104 = some blX6_store_104 := rfl
theorem bqX6_store_106 : aLook bkX6_store 106 = some blX6_store_106 := rfl
theorem bqX6_store_119 : aLook bkX6_store 119 = some blX6_store_119 := rfl
theorem boX6_store : ∀ pc is, aLook bkX6_store pc = some is → aBlk RX6 cX6_store 4 false pc is := aBks_ok (lk := lkX6) lkX6_ok (by decide +kernel)
def blX6_move_0 : List aIn := [(.aload_n 1, 1, 0, 0, []), (.invokevirtual 34, 1, 0, 0, [])]
def blX6_move_4 : List aIn := [(.ifCond .eq 10, 14, 0, 0, [])]
def blX6_move_7 : List aIn := [(.aload_n 0, 0, 0, 0, []), (.aload_n 1, 1, 0, 0, []), (.aload_n 2, 2, 0, 0, []), (.invokevirtual 83, 3, 0, 0, [])]
def blX6_move_13 : List aIn := [(.ireturn, 0, 0, 0, [])]
def blX6_move_14 : List aIn := [(.aload_n 0, 0, 0, 0, []), (.aload_n 2, 2, 0, 0, []), (.aload_n 1, 1, 0, 0, []), (.getfield 44, 5, 2, 0, []), (.invokevirtual 48, 3, 0, 0, [])]
def blX6_move_23 : List aIn := [(.aload_n 2, 2, 0, 0, []), (.getfield 66, 3, 0, 1, []), (.ifCond .eq 14, 41, 0, 0, [])]
def blX6_move_30 : List aIn := [(.aload_n 1, 1, 0, 0, []), (.invokevirtual 72, 1, 0, 0, [])]
def blX6_move_34 : List aIn := [(.ifCond .ne 7, 41, 0, 0, [])]
def blX6_move_37 : List aIn := [(.iconst 1, 1, 0, 0, []), (.goto 4, 42, 0, 0, [])]
def blX6_move_41 : List aIn := [(.iconst 0, 0, 0, 0, [])]
def blX6_move_42 : List aIn := [(.istore_n 3, 3, 0, 0, []), (.aload_n 0, 0, 0, 0, []), (.getfield 25, 7, 2, 2, []), (.invokevirtual 52, 1, 0, 0, [])]
def blX6_move_50 : List aIn := [(.ifCond .eq 24, 74, 0, 0, [])]
def blX6_move_53 : List aIn := [(.iload_n 3, 3, 0, 0, []), (.aload_n 2, 2, 0, 0, []), (.getfield 66, 3, 0, 1, []), (.if_icmp .ne 16, 74, 0, 0, [])]
def blX6_move_61 : List aIn := [(.aload_n 0, 0, 0, 0, []), (.aload_n 1, 1, 0, 0, []), (.iload_n 3, 3, 0, 0, []), (.invokevirtual 75, 3, 0, 0, [])]
def blX6_move_67 : List aIn := [(.ifCond .eq 7, 74, 0, 0, [])]
def blX6_move_70 : List aIn := [(.iconst 1, 1, 0, 0, []), (.goto 4, 75, 0, 0, [])]
def blX6_move_74 : List aIn := [(.iconst 0, 0, 0, 0, [])]
def blX6_move_75 : List aIn := [(.istore 4, 4, 0, 0, []), (.aload_n 1, 1, 0, 0, []), (.getfield 86, 5, 0, 0, []), (.bipush 8, 8, 0, 0, []), (.if_icmp .eq 11, 94, 0, 0, [])]
def blX6_move_86 : List aIn := [(.aload_n 0, 0, 0, 0, []), (.aload_n 1, 1, 0, 0, []), (.getfield 89, 5, 1, 0, []), (.invokevirtual 92, 2, 0, 0, [])]
def blX6_move_94 : List aIn := [(.aload_n 0, 0, 0, 0, []), (.getfield 12, 7, 0, 2, []), (.aload_n 1, 1, 0, 0, []), (.aload_n 0, 0, 0, 0, []), (.getfield 21, 7, 1, 2, []), (.iload_n 3, 3, 0, 0, []), (.ifCond .eq 17, 121, 0, 0, [])]
def blX6_move_107 : List aIn := [(.aload_n 0, 0, 0, 0, []), (.getfield 21, 7, 1, 2, []), (.invokevirtual 52, 1, 0, 0, [])]
def blX6_move_114 : List aIn := [(.ifCond .ne 7, 121, 0, 0, [])]
def blX6_move_117 : List aIn := [(.iconst 1, 1, 0, 0, []), (.goto 4, 122, 0, 0, [])]
def blX6_move_121 : List aIn := [(.iconst 0, 0, 0, 0, [])]
def blX6_move_122 : List aIn := [(.invokevirtual 79, 4, 0, 0, [])]
def blX6_move_125 : List aIn := [(.iload 4, 4, 0, 0, []), (.ireturn, 0, 0, 0, [])]
def bkX6_move : List (Nat × List aIn) := [(0, blX6_move_0), (4, blX6_move_4), (7, blX6_move_7), (13, blX6_move_13), (14, blX6_move_14), (23, blX6_move_23), (30, blX6_move_30), (34, blX6_move_34), (37, blX6_move_37), (41, blX6_move_41), (42, blX6_move_42), (50, blX6_move_50), (53, blX6_move_53), (61, blX6_move_61), (67, blX6_move_67), (70, blX6_move_70), (74, blX6_move_74), (75, blX6_move_75), (86, blX6_move_86), (94, blX6_move_94), (107, blX6_move_107), (114, blX6_move_114), (117, blX6_move_117), (121, blX6_move_121), (122, blX6_move_122), (125, blX6_move_125)]
theorem bqX6_move_0 : aLook bkX6_move 0 = some blX6_move_0 := rfl
theorem bqX6_move_4 : aLook bkX6_move 4 = some blX6_move_4 := rfl
theorem bqX6_move_7 : aLook bkX6_move 7 = some blX6_move_7 := rfl
theorem bqX6_move_13 : aLook bkX6_move 13 = some blX6_move_13 := rfl
theorem bqX6_move_14 : aLook bkX6_move 14 = some blX6_move_14 := rfl
theorem bqX6_move_23 : aLook bkX6_move 23 = some blX6_move_23 := rfl
theorem bqX6_move_30 : aLook bkX6_move 30 = some blX6_move_30 := rfl
theorem bqX6_move_34 : aLook bkX6_move 34 = some blX6_move_34 := rfl
theorem bqX6_move_37 : aLook bkX6_move 37 = some blX6_move_37 := rfl
theorem bqX6_move_41 : aLook bkX6_move 41 = some blX6_move_41 := rfl
theorem bqX6_move_42 : aLook bkX6_move 42 = some blX6_move_42 := rfl
theorem bqX6_move_50 : aLook bkX6_move 50 = some blX6_move_50 := rfl
theorem bqX6_move_53 : aLook bkX6_move 53 = some blX6_move_53 := rfl
theorem bqX6_move_61 : aLook bkX6_move 61 = some blX6_move_61 := rfl
theorem bqX6_move_67 : aLook bkX6_move 67 = some blX6_move_67 := rfl
theorem bqX6_move_70 : aLook bkX6_move 70 = some blX6_move_70 := rfl
theorem bqX6_move_74 : aLook bkX6_move 74 = some blX6_move_74 := rfl
theorem bqX6_move_75 : aLook bkX6_move 75 = some blX6_move_75 := rfl
theorem bqX6_move_86 : aLook bkX6_move 86 = some blX6_move_86 := rfl
theorem bqX6_move_94 : aLook bkX6_move 94 = some blX6_move_94 := rfl
theorem bqX6_move_107 : aLook bkX6_move 107 = some blX6_move_107 := rfl
theorem bqX6_move_114 : aLook bkX6_move 114 = some blX6_move_114 := rfl
theorem bqX6_move_117 : aLook bkX6_move 117 = some blX6_move_117 := rfl
theorem bqX6_move_121 : aLook bkX6_move 121 = some blX6_move_121 := rfl
theorem bqX6_move_122 : aLook bkX6_move 122 = some blX6_move_122 := rfl
theorem bqX6_move_125 : aLook bkX6_move 125 = some blX6_move_125 := rfl
theorem boX6_move : ∀ pc is, aLook bkX6_move pc = some is → aBlk RX6 cX6_move 5 false pc is := aBks_ok (lk := lkX6) lkX6_ok (by decide +kernel)
def blX6_storeFloating_0 : List aIn := [(.aload_n 0, 0, 0, 0, []), (.aload_n 1, 1, 0, 0, []), (.aload_n 2, 2, 0, 0, []), (.invokevirtual 96, 3, 0, 0, [])]
def blX6_storeFloating_6 : List aIn := [(.lstore_n 3, 3, 0, 0, []), (.lload_n 3, 3, 0, 0, []), (.ldc2_w 100, 1, 1, 0, []), (.lcmp, 0, 0, 0, []), (.ifCond .eq 19, 31, 0, 0, [])]
def blX6_storeFloating_15 : List aIn := [(.aload_n 1, 1, 0, 0, []), (.getfield 55, 5, 4, 0, []), (.bipush 7, 7, 0, 0, []), (.if_icmp .ne 12, 33, 0, 0, [])]
def blX6_storeFloating_24 : List aIn := [(.aload_n 0, 0, 0, 0, []), (.getfield 102, 7, 5, 1, []), (.ifCond .ne 5, 33, 0, 0, [])]
def blX6_storeFloating_31 : List aIn := [(.iconst 0, 0, 0, 0, []), (.ireturn, 0, 0, 0, [])]
def blX6_storeFloating_33 : List aIn := [(.aload_n 0, 0, 0, 0, []), (.getfield 12, 7, 0, 2, []), (.aload_n 1, 1, 0, 0, []), (.lload_n 3, 3, 0, 0, []), (.aload_n 2, 2, 0, 0, []), (.getfield 66, 3, 0, 1, []), (.ifCond .eq 13, 56, 0, 0, [])]
def blX6_storeFloating_46 : List aIn := [(.lload_n 3, 3, 0, 0, []), (.lconst 0, 0, 0, 0, []), (.lcmp, 0, 0, 0, []), (.ifCond .eq 7, 56, 0, 0, [])]
def blX6_storeFloating_52 : List aIn := [(.iconst 1, 1, 0, 0, []), (.goto 4, 57, 0, 0, [])]
def blX6_storeFloating_56 : List aIn := [(.iconst 0, 0, 0, 0, [])]
def blX6_storeFloating_57 : List aIn := [(.invokevirtual 105, 4, 0, 0, [])]
def blX6_storeFloating_60 : List aIn := [(.iconst 1, 1, 0, 0, []), (.ireturn, 0, 0, 0, [])]
def bkX6_storeFloating : List (Nat × List aIn) := [(0, blX6_storeFloating_0), (6, blX6_storeFloating_6), (15, blX6_storeFloating_15), (24, blX6_storeFloating_24), (31, blX6_storeFloating_31), (33, blX6_storeFloating_33), (46, blX6_storeFloating_46), (52, blX6_storeFloating_52), (56, blX6_storeFloating_56), (57, blX6_storeFloating_57), (60, blX6_storeFloating_60)]
theorem bqX6_storeFloating_0 : aLook bkX6_storeFloating 0 = some blX6_storeFloating_0 := rfl
theorem bqX6_storeFloating_6 : aLook bkX6_storeFloating 6 = some blX6_storeFloating_6 := rfl
theorem bqX6_storeFloating_15 : aLook bkX6_storeFloating 15 = some blX6_storeFloating_15 := rfl
theorem bqX6_storeFloating_24 : aLook bkX6_storeFloating 24 = some blX6_storeFloating_24 := rfl
theorem bqX6_storeFloating_31 : aLook bkX6_storeFloating 31 = some blX6_storeFloating_31 := rfl
theorem bqX6_storeFloating_33 : aLook bkX6_storeFloating 33 = some blX6_storeFloating_33 := rfl
theorem bqX6_storeFloating_46 : aLook bkX6_storeFloating 46 = some blX6_storeFloating_46 := rfl
theorem bqX6_storeFloating_52 : aLook bkX6_storeFloating 52 = some blX6_storeFloating_52 := rfl
theorem bqX6_storeFloating_56 : aLook bkX6_storeFloating 56 = some blX6_storeFloating_56 := rfl
theorem bqX6_storeFloating_57 : aLook bkX6_storeFloating 57 = some blX6_storeFloating_57 := rfl
theorem bqX6_storeFloating_60 : aLook bkX6_storeFloating 60 = some blX6_storeFloating_60 := rfl
theorem boX6_storeFloating : ∀ pc is, aLook bkX6_storeFloating pc = some is → aBlk RX6 cX6_storeFloating 5 false pc is := aBks_ok (lk := lkX6) lkX6_ok (by decide +kernel)
def blX6_moveFloating_0 : List aIn := [(.aload_n 0, 0, 0, 0, []), (.aload_n 1, 1, 0, 0, []), (.aload_n 2, 2, 0, 0, []), (.invokevirtual 96, 3, 0, 0, [])]
def blX6_moveFloating_6 : List aIn := [(.lstore_n 3, 3, 0, 0, []), (.lload_n 3, 3, 0, 0, []), (.ldc2_w 100, 1, 1, 0, []), (.lcmp, 0, 0, 0, []), (.ifCond .ne 5, 17, 0, 0, [])]
def blX6_moveFloating_15 : List aIn := [(.iconst 0, 0, 0, 0, []), (.ireturn, 0, 0, 0, [])]
def blX6_moveFloating_17 : List aIn := [(.aload_n 0, 0, 0, 0, []), (.getfield 12, 7, 0, 2, []), (.aload_n 1, 1, 0, 0, []), (.lload_n 3, 3, 0, 0, []), (.aload_n 2, 2, 0, 0, []), (.getfield 66, 3, 0, 1, []), (.ifCond .eq 13, 40, 0, 0, [])]
def blX6_moveFloating_30 : List aIn := [(.lload_n 3, 3, 0, 0, []), (.lconst 0, 0, 0, 0, []), (.lcmp, 0, 0, 0, []), (.ifCond .eq 7, 40, 0, 0, [])]
def blX6_moveFloating_36 : List aIn := [(.iconst 1, 1, 0, 0, []), (.goto 4, 41, 0, 0, [])]
def blX6_moveFloating_40 : List aIn := [(.iconst 0, 0, 0, 0, [])]
def blX6_moveFloating_41 : List aIn := [(.invokevirtual 105, 4, 0, 0, [])]
def blX6_moveFloating_44 : List aIn := [(.aload_n 0, 0, 0, 0, []), (.getfield 102, 7, 5, 1, []), (.ireturn, 0, 0, 0, [])]
def bkX6_moveFloating : List (Nat × List aIn) := [(0, blX6_moveFloating_0), (6, blX6_moveFloating_6), (15, blX6_moveFloating_15), (17, blX6_moveFloating_17), (30, blX6_moveFloating_30), (36, blX6_moveFloating_36), (40, blX6_moveFloating_40), (41, blX6_moveFloating_41), (44, blX6_moveFloating_44)]
theorem bqX6_moveFloating_0 : aLook bkX6_moveFloating 0 = some blX6_moveFloating_0 := rfl
theorem bqX6_moveFloating_6 : aLook bkX6_moveFloating 6 = some blX6_moveFloating_6 := rfl
theorem bqX6_moveFloating_15 : aLook bkX6_moveFloating 15 = some blX6_moveFloating_15 := rfl
theorem bqX6_moveFloating_17 : aLook bkX6_moveFloating 17 = some blX6_moveFloating_17 := rfl
theorem bqX6_moveFloating_30 : aLook bkX6_moveFloating 30 = some blX6_moveFloating_30 := rfl
theorem bqX6_moveFloating_36 : aLook bkX6_moveFloating 36 = some blX6_moveFloating_36 := rfl
theorem bqX6_moveFloating_40 : aLook bkX6_moveFloating 40 = some blX6_moveFloating_40 := rfl
theorem bqX6_moveFloating_41 : aLook bkX6_moveFloating 41 = some blX6_moveFloating_41 := rfl
theorem bqX6_moveFloating_44 : aLook bkX6_moveFloating 44 = some blX6_moveFloating_44 := rfl
theorem boX6_moveFloating : ∀ pc is, aLook bkX6_moveFloating pc = some is → aBlk RX6 cX6_moveFloating 5 false pc is := aBks_ok (lk := lkX6) lkX6_ok (by decide +kernel)
def blX6_split_0 : List aIn := [(.aload_n 0, 0, 0, 0, []), (.getfield 25, 7, 2, 2, []), (.aload_n 1, 1, 0, 0, []), (.getfield 109, 3, 1, 2, []), (.invokevirtual 112, 2, 0, 0, [])]
def blX6_split_11 : List aIn := [(.aload_n 0, 0, 0, 0, []), (.getfield 25, 7, 2, 2, []), (.iload_n 2, 2, 0, 0, []), (.invokevirtual 116, 2, 0, 0, [])]
def blX6_split_19 : List aIn := [(.aload_n 0, 0, 0, 0, []), (.getfield 28, 7, 3, 2, []), (.aload_n 1, 1, 0, 0, []), (.getfield 119, 3, 2, 2, []), (.invokevirtual 112, 2, 0, 0, [])]
def blX6_split_30 : List aIn := [(.aload_n 0, 0, 0, 0, []), (.getfield 25, 7, 2, 2, []), (.aload_n 0, 0, 0, 0, []), (.getfield 28, 7, 3, 2, []), (.aload_n 0, 0, 0, 0, []), (.getfield 21, 7, 1, 2, []), (.aload_n 0, 0, 0, 0, []), (.getfield 31, 7, 4, 2, []), (.invokevirtual 120, 4, 0, 0, [])]
def blX6_split_49 : List aIn := [(.return_, 0, 0, 0, [])]
def bkX6_split : List (Nat × List aIn) := [(0, blX6_split_0), (11, blX6_split_11), (19, blX6_split_19), (30, blX6_split_30), (49, blX6_split_49)]
theorem bqX6_split_0 : aLook bkX6_split 0 = some blX6_split_0 := rfl
theorem bqX6_split_11 : aLook bkX6_split 11 = some blX6_split_11 := rfl
theorem bqX6_split_19 : aLook bkX6_split 19 = some blX6_split_19 := rfl
theorem bqX6_split_30 : aLook bkX6_split 30 = some blX6_split_30 := rfl
theorem bqX6_split_49 : aLook bkX6_split 49 = some blX6_split_49 := rfl
theorem boX6_split : ∀ pc is, aLook bkX6_split pc = some is → aBlk RX6 cX6_split 3 false pc is := aBks_ok (lk := lkX6) lkX6_ok (by decide +kernel)
def blX6_roundsAway_0 : List aIn := [(.aload_n 0, 0, 0, 0, []), (.getfield 25, 7, 2, 2, []), (.iconst 1, 1, 0, 0, []), (.invokevirtual 124, 2, 0, 0, [])]
def blX6_roundsAway_8 : List aIn := [(.aload_n 0, 0, 0, 0, []), (.getfield 25, 7, 2, 2, []), (.aload_n 0, 0, 0, 0, []), (.getfield 28, 7, 3, 2, []), (.invokevirtual 127, 2, 0, 0, [])]
def blX6_roundsAway_19 : List aIn := [(.istore_n 3, 3, 0, 0, []), (.iload_n 1, 1, 0, 0, []), (.tableswitch 103 1 6 #[39, 49, 73, 83, 85, 98], 1, 124, 0, [60, 70, 94, 104, 106, 119])]
def blX6_roundsAway_60 : List aIn := [(.iload_n 3, 3, 0, 0, []), (.ifCond .lt 7, 68, 0, 0, [])]
def blX6_roundsAway_64 : List aIn := [(.iconst 1, 1, 0, 0, []), (.goto 4, 69, 0, 0, [])]
def blX6_roundsAway_68 : List aIn := [(.iconst 0, 0, 0, 0, [])]
def blX6_roundsAway_69 : List aIn := [(.ireturn, 0, 0, 0, [])]
def blX6_roundsAway_70 : List aIn := [(.iload_n 3, 3, 0, 0, []), (.ifCond .gt 17, 88, 0, 0, [])]
def blX6_roundsAway_74 : List aIn := [(.iload_n 3, 3, 0, 0, []), (.ifCond .ne 17, 92, 0, 0, [])]
def blX6_roundsAway_78 : List aIn := [(.aload_n 0, 0, 0, 0, []), (.getfield 21, 7, 1, 2, []), (.invokevirtual 131, 1, 0, 0, [])]
def blX6_roundsAway_85 : List aIn := [(.ifCond .eq 7, 92, 0, 0, [])]
def blX6_roundsAway_88 : List aIn := [(.iconst 1, 1, 0, 0, []), (.goto 4, 93, 0, 0, [])]
def blX6_roundsAway_92 : List aIn := [(.iconst 0, 0, 0, 0, [])]
def blX6_roundsAway_93 : List aIn := [(.ireturn, 0, 0, 0, [])]
def blX6_roundsAway_94 : List aIn := [(.iload_n 3, 3, 0, 0, []), (.ifCond .le 7, 102, 0, 0, [])]
def blX6_roundsAway_98 : List aIn := [(.iconst 1, 1, 0, 0, []), (.goto 4, 103, 0, 0, [])]
def blX6_roundsAway_102 : List aIn := [(.iconst 0, 0, 0, 0, [])]
def blX6_roundsAway_103 : List aIn := [(.ireturn, 0, 0, 0, [])]
def blX6_roundsAway_104 : List aIn := [(.iconst 1, 1, 0, 0, []), (.ireturn, 0, 0, 0, [])]
def blX6_roundsAway_106 : List aIn := [(.aload_n 2, 2, 0, 0, []), (.getfield 66, 3, 0, 1, []), (.ifCond .ne 7, 117, 0, 0, [])]
def blX6_roundsAway_113 : List aIn := [(.iconst 1, 1, 0, 0, []), (.goto 4, 118, 0, 0, [])]
def blX6_roundsAway_117 : List aIn := [(.iconst 0, 0, 0, 0, [])]
def blX6_roundsAway_118 : List aIn := [(.ireturn, 0, 0, 0, [])]
def blX6_roundsAway_119 : List aIn := [(.aload_n 2, 2, 0, 0, []), (.getfield 66, 3, 0, 1, []), (.ireturn, 0, 0, 0, [])]
def blX6_roundsAway_124 : List aIn := [(.iconst 0, 0, 0, 0, []), (.ireturn, 0, 0, 0, [])]
def bkX6_roundsAway : List (Nat × List aIn) := [(0, blX6_roundsAway_0), (8, blX6_roundsAway_8), (19, blX6_roundsAway_19), (60, blX6_roundsAway_60), (64, blX6_roundsAway_64), (68, blX6_roundsAway_68), (69, blX6_roundsAway_69), (70, blX6_roundsAway_70), (74, blX6_roundsAway_74), (78, blX6_roundsAway_78), (85, blX6_roundsAway_85), (88, blX6_roundsAway_88), (92, blX6_roundsAway_92), (93, blX6_roundsAway_93), (94, blX6_roundsAway_94), (98, blX6_roundsAway_98), (102, blX6_roundsAway_102), (103, blX6_roundsAway_103), (104, blX6_roundsAway_104), (106, blX6_roundsAway_106), (113, blX6_roundsAway_113), (117, blX6_roundsAway_117), (118, blX6_roundsAway_118), (119, blX6_roundsAway_119), (124, blX6_roundsAway_124)]
theorem bqX6_roundsAway_0 : aLook bkX6_roundsAway 0 = some blX6_roundsAway_0 := rfl
theorem bqX6_roundsAway_8 : aLook bkX6_roundsAway 8 = some blX6_roundsAway_8 := rfl
theorem bqX6_roundsAway_19 : aLook bkX6_roundsAway 19 = some blX6_roundsAway_19 := rfl
theorem bqX6_roundsAway_60 : aLook bkX6_roundsAway 60 = some blX6_roundsAway_60 := rfl
theorem bqX6_roundsAway_64 : aLook bkX6_roundsAway 64 = some blX6_roundsAway_64 := rfl
theorem bqX6_roundsAway_68 : aLook bkX6_roundsAway 68 = some blX6_roundsAway_68 := rfl
theorem bqX6_roundsAway_69 : aLook bkX6_roundsAway 69 = some blX6_roundsAway_69 := rfl
theorem bqX6_roundsAway_70 : aLook bkX6_roundsAway 70 = some blX6_roundsAway_70 := rfl
theorem bqX6_roundsAway_74 : aLook bkX6_roundsAway 74 = some blX6_roundsAway_74 := rfl
theorem bqX6_roundsAway_78 : aLook bkX6_roundsAway 78 = some blX6_roundsAway_78 := rfl
theorem bqX6_roundsAway_85 : aLook bkX6_roundsAway 85 = some blX6_roundsAway_85 := rfl
theorem bqX6_roundsAway_88 : aLook bkX6_roundsAway 88 = some blX6_roundsAway_88 := rfl
theorem bqX6_roundsAway_92 : aLook bkX6_roundsAway 92 = some blX6_roundsAway_92 := rfl
theorem bqX6_roundsAway_93 : aLook bkX6_roundsAway 93 = some blX6_roundsAway_93 := rfl
theorem bqX6_roundsAway_94 : aLook bkX6_roundsAway 94 = some blX6_roundsAway_94 := rfl
theorem bqX6_roundsAway_98 : aLook bkX6_roundsAway 98 = some blX6_roundsAway_98 := rfl
theorem bqX6_roundsAway_102 : aLook bkX6_roundsAway 102 = some blX6_roundsAway_102 := rfl
theorem bqX6_roundsAway_103 : aLook bkX6_roundsAway 103 = some blX6_roundsAway_103 := rfl
theorem bqX6_roundsAway_104 : aLook bkX6_roundsAway 104 = some blX6_roundsAway_104 := rfl
theorem bqX6_roundsAway_106 : aLook bkX6_roundsAway 106 = some blX6_roundsAway_106 := rfl
theorem bqX6_roundsAway_113 : aLook bkX6_roundsAway 113 = some blX6_roundsAway_113 := rfl
theorem bqX6_roundsAway_117 : aLook bkX6_roundsAway 117 = some blX6_roundsAway_117 := rfl
theorem bqX6_roundsAway_118 : aLook bkX6_roundsAway 118 = some blX6_roundsAway_118 := rfl
theorem bqX6_roundsAway_119 : aLook bkX6_roundsAway 119 = some blX6_roundsAway_119 := rfl
theorem bqX6_roundsAway_124 : aLook bkX6_roundsAway 124 = some blX6_roundsAway_124 := rfl
theorem boX6_roundsAway : ∀ pc is, aLook bkX6_roundsAway pc = some is → aBlk RX6 cX6_roundsAway 4 false pc is := aBks_ok (lk := lkX6) lkX6_ok (by decide +kernel)
def blX6_fits_0 : List aIn := [(.aload_n 0, 0, 0, 0, []), (.getfield 31, 7, 4, 2, []), (.lconst 1, 1, 0, 0, []), (.invokevirtual 134, 2, 0, 0, [])]
def blX6_fits_8 : List aIn := [(.aload_n 1, 1, 0, 0, []), (.getfield 86, 5, 0, 0, []), (.bipush 8, 8, 0, 0, []), (.if_icmp .ne 23, 37, 0, 0, [])]
def blX6_fits_17 : List aIn := [(.aload_n 0, 0, 0, 0, []), (.getfield 31, 7, 4, 2, []), (.bipush 8, 8, 0, 0, []), (.aload_n 1, 1, 0, 0, []), (.getfield 138, 5, 3, 2, []), (.arraylength, 0, 0, 0, []), (.imul, 0, 0, 0, []), (.iconst 1, 1, 0, 0, []), (.isub, 0, 0, 0, []), (.invokevirtual 124, 2, 0, 0, [])]
def blX6_fits_34 : List aIn := [(.goto 14, 48, 0, 0, [])]
def blX6_fits_37 : List aIn := [(.aload_n 0, 0, 0, 0, []), (.getfield 31, 7, 4, 2, []), (.aload_n 1, 1, 0, 0, []), (.getfield 89, 5, 1, 0, []), (.invokevirtual 116, 2, 0, 0, [])]
def blX6_fits_48 : List aIn := [(.aload_n 0, 0, 0, 0, []), (.getfield 21, 7, 1, 2, []), (.aload_n 0, 0, 0, 0, []), (.getfield 31, 7, 4, 2, []), (.invokevirtual 127, 2, 0, 0, [])]
def blX6_fits_59 : List aIn := [(.istore_n 3, 3, 0, 0, []), (.iload_n 3, 3, 0, 0, []), (.ifCond .lt 20, 81, 0, 0, [])]
def blX6_fits_64 : List aIn := [(.iload_n 3, 3, 0, 0, []), (.ifCond .ne 20, 85, 0, 0, [])]
def blX6_fits_68 : List aIn := [(.iload_n 2, 2, 0, 0, []), (.ifCond .eq 16, 85, 0, 0, [])]
def blX6_fits_72 : List aIn := [(.aload_n 1, 1, 0, 0, []), (.getfield 86, 5, 0, 0, []), (.bipush 8, 8, 0, 0, []), (.if_icmp .ne 7, 85, 0, 0, [])]
def blX6_fits_81 : List aIn := [(.iconst 1, 1, 0, 0, []), (.goto 4, 86, 0, 0, [])]
def blX6_fits_85 : List aIn := [(.iconst 0, 0, 0, 0, [])]
def blX6_fits_86 : List aIn := [(.ireturn, 0, 0, 0, [])]
def bkX6_fits : List (Nat × List aIn) := [(0, blX6_fits_0), (8, blX6_fits_8), (17, blX6_fits_17), (34, blX6_fits_34), (37, blX6_fits_37), (48, blX6_fits_48), (59, blX6_fits_59), (64, blX6_fits_64), (68, blX6_fits_68), (72, blX6_fits_72), (81, blX6_fits_81), (85, blX6_fits_85), (86, blX6_fits_86)]
theorem bqX6_fits_0 : aLook bkX6_fits 0 = some blX6_fits_0 := rfl
theorem bqX6_fits_8 : aLook bkX6_fits 8 = some blX6_fits_8 := rfl
theorem bqX6_fits_17 : aLook bkX6_fits 17 = some blX6_fits_17 := rfl
theorem bqX6_fits_34 : aLook bkX6_fits 34 = some blX6_fits_34 := rfl
theorem bqX6_fits_37 : aLook bkX6_fits 37 = some blX6_fits_37 := rfl
theorem bqX6_fits_48 : aLook bkX6_fits 48 = some blX6_fits_48 := rfl
theorem bqX6_fits_59 : aLook bkX6_fits 59 = some blX6_fits_59 := rfl
theorem bqX6_fits_64 : aLook bkX6_fits 64 = some blX6_fits_64 := rfl
theorem bqX6_fits_68 : aLook bkX6_fits 68 = some blX6_fits_68 := rfl
theorem bqX6_fits_72 : aLook bkX6_fits 72 = some blX6_fits_72 := rfl
theorem bqX6_fits_81 : aLook bkX6_fits 81 = some blX6_fits_81 := rfl
theorem bqX6_fits_85 : aLook bkX6_fits 85 = some blX6_fits_85 := rfl
theorem bqX6_fits_86 : aLook bkX6_fits 86 = some blX6_fits_86 := rfl
theorem boX6_fits : ∀ pc is, aLook bkX6_fits pc = some is → aBlk RX6 cX6_fits 4 false pc is := aBks_ok (lk := lkX6) lkX6_ok (by decide +kernel)
def blX6_keepDigits_0 : List aIn := [(.aload_n 0, 0, 0, 0, []), (.getfield 25, 7, 2, 2, []), (.aload_n 0, 0, 0, 0, []), (.getfield 21, 7, 1, 2, []), (.invokevirtual 112, 2, 0, 0, [])]
def blX6_keepDigits_11 : List aIn := [(.aload_n 0, 0, 0, 0, []), (.getfield 28, 7, 3, 2, []), (.lconst 1, 1, 0, 0, []), (.invokevirtual 134, 2, 0, 0, [])]
def blX6_keepDigits_19 : List aIn := [(.aload_n 0, 0, 0, 0, []), (.getfield 28, 7, 3, 2, []), (.iload_n 1, 1, 0, 0, []), (.invokevirtual 116, 2, 0, 0, [])]
def blX6_keepDigits_27 : List aIn := [(.aload_n 0, 0, 0, 0, []), (.getfield 25, 7, 2, 2, []), (.aload_n 0, 0, 0, 0, []), (.getfield 28, 7, 3, 2, []), (.aload_n 0, 0, 0, 0, []), (.getfield 21, 7, 1, 2, []), (.aload_n 0, 0, 0, 0, []), (.getfield 31, 7, 4, 2, []), (.invokevirtual 120, 4, 0, 0, [])]
def blX6_keepDigits_46 : List aIn := [(.aload_n 0, 0, 0, 0, []), (.getfield 21, 7, 1, 2, []), (.aload_n 0, 0, 0, 0, []), (.getfield 25, 7, 2, 2, []), (.invokevirtual 112, 2, 0, 0, [])]
def blX6_keepDigits_57 : List aIn := [(.return_, 0, 0, 0, [])]
def bkX6_keepDigits : List (Nat × List aIn) := [(0, blX6_keepDigits_0), (11, blX6_keepDigits_11), (19, blX6_keepDigits_19), (27, blX6_keepDigits_27), (46, blX6_keepDigits_46), (57, blX6_keepDigits_57)]
theorem bqX6_keepDigits_0 : aLook bkX6_keepDigits 0 = some blX6_keepDigits_0 := rfl
theorem bqX6_keepDigits_11 : aLook bkX6_keepDigits 11 = some blX6_keepDigits_11 := rfl
theorem bqX6_keepDigits_19 : aLook bkX6_keepDigits 19 = some blX6_keepDigits_19 := rfl
theorem bqX6_keepDigits_27 : aLook bkX6_keepDigits 27 = some blX6_keepDigits_27 := rfl
theorem bqX6_keepDigits_46 : aLook bkX6_keepDigits 46 = some blX6_keepDigits_46 := rfl
theorem bqX6_keepDigits_57 : aLook bkX6_keepDigits 57 = some blX6_keepDigits_57 := rfl
theorem boX6_keepDigits : ∀ pc is, aLook bkX6_keepDigits pc = some is → aBlk RX6 cX6_keepDigits 2 false pc is := aBks_ok (lk := lkX6) lkX6_ok (by decide +kernel)
def blX6_nearest_0 : List aIn := [(.aload_n 0, 0, 0, 0, []), (.aload_n 2, 2, 0, 0, []), (.getfield 109, 3, 1, 2, []), (.invokevirtual 52, 1, 0, 0, [])]
def blX6_nearest_8 : List aIn := [(.putfield 102, 7, 5, 1, []), (.aload_n 0, 0, 0, 0, []), (.getfield 102, 7, 5, 1, []), (.ifCond .eq 5, 20, 0, 0, [])]
def blX6_nearest_18 : List aIn := [(.lconst 0, 0, 0, 0, []), (.lreturn, 0, 0, 0, [])]
def blX6_nearest_20 : List aIn := [(.aload_n 1, 1, 0, 0, []), (.invokestatic 142, 1, 0, 0, [])]
def blX6_nearest_24 : List aIn := [(.istore_n 3, 3, 0, 0, []), (.aload_n 0, 0, 0, 0, []), (.iload_n 3, 3, 0, 0, []), (.iconst 1, 1, 0, 0, []), (.iadd, 0, 0, 0, []), (.aload_n 2, 2, 0, 0, []), (.invokevirtual 148, 3, 0, 0, [])]
def blX6_nearest_33 : List aIn := [(.istore 4, 4, 0, 0, []), (.aload_n 0, 0, 0, 0, []), (.getfield 21, 7, 1, 2, []), (.invokevirtual 152, 1, 0, 0, [])]
def blX6_nearest_42 : List aIn := [(.iload_n 3, 3, 0, 0, []), (.isub, 0, 0, 0, []), (.istore 5, 5, 0, 0, []), (.iload 4, 4, 0, 0, []), (.iload 5, 5, 0, 0, []), (.iadd, 0, 0, 0, []), (.iload_n 3, 3, 0, 0, []), (.iadd, 0, 0, 0, []), (.iconst 1, 1, 0, 0, []), (.isub, 0, 0, 0, []), (.aload_n 1, 1, 0, 0, []), (.invokestatic 156, 1, 0, 0, [])]
def blX6_nearest_59 : List aIn := [(.iadd, 0, 0, 0, []), (.i2l, 0, 0, 0, []), (.lstore 6, 6, 0, 0, []), (.lload 6, 6, 0, 0, []), (.iload_n 3, 3, 0, 0, []), (.iconst 1, 1, 0, 0, []), (.isub, 0, 0, 0, []), (.lshl, 0, 0, 0, []), (.aload_n 0, 0, 0, 0, []), (.iload 5, 5, 0, 0, []), (.invokevirtual 159, 2, 0, 0, [])]
def blX6_nearest_75 : List aIn := [(.ladd, 0, 0, 0, []), (.lconst 1, 1, 0, 0, []), (.iload_n 3, 3, 0, 0, []), (.iconst 1, 1, 0, 0, []), (.isub, 0, 0, 0, []), (.lshl, 0, 0, 0, []), (.lsub, 0, 0, 0, []), (.lstore 8, 8, 0, 0, []), (.aload_n 1, 1, 0, 0, []), (.lload 8, 8, 0, 0, []), (.invokestatic 163, 2, 0, 0, [])]
def blX6_nearest_90 : List aIn := [(.ifCond .eq 7, 97, 0, 0, [])]
def blX6_nearest_93 : List aIn := [(.ldc2_w 100, 1, 1, 0, []), (.lreturn, 0, 0, 0, [])]
def blX6_nearest_97 : List aIn := [(.aload_n 1, 1, 0, 0, []), (.lload 8, 8, 0, 0, []), (.invokestatic 167, 2, 0, 0, [])]
def blX6_nearest_103 : List aIn := [(.ifCond .eq 10, 113, 0, 0, [])]
def blX6_nearest_106 : List aIn := [(.aload_n 0, 0, 0, 0, []), (.iconst 0, 0, 0, 0, []), (.putfield 102, 7, 5, 1, []), (.lconst 0, 0, 0, 0, []), (.lreturn, 0, 0, 0, [])]
def blX6_nearest_113 : List aIn := [(.lload 8, 8, 0, 0, []), (.lreturn, 0, 0, 0, [])]
def bkX6_nearest : List (Nat × List aIn) := [(0, blX6_nearest_0), (8, blX6_nearest_8), (18, blX6_nearest_18), (20, blX6_nearest_20), (24, blX6_nearest_24), (33, blX6_nearest_33), (42, blX6_nearest_42), (59, blX6_nearest_59), (75, blX6_nearest_75), (90, blX6_nearest_90), (93, blX6_nearest_93), (97, blX6_nearest_97), (103, blX6_nearest_103), (106, blX6_nearest_106), (113, blX6_nearest_113)]
theorem bqX6_nearest_0 : aLook bkX6_nearest 0 = some blX6_nearest_0 := rfl
theorem bqX6_nearest_8 : aLook bkX6_nearest 8 = some blX6_nearest_8 := rfl
theorem bqX6_nearest_18 : aLook bkX6_nearest 18 = some blX6_nearest_18 := rfl
theorem bqX6_nearest_20 : aLook bkX6_nearest 20 = some blX6_nearest_20 := rfl
theorem bqX6_nearest_24 : aLook bkX6_nearest 24 = some blX6_nearest_24 := rfl
theorem bqX6_nearest_33 : aLook bkX6_nearest 33 = some blX6_nearest_33 := rfl
theorem bqX6_nearest_42 : aLook bkX6_nearest 42 = some blX6_nearest_42 := rfl
theorem bqX6_nearest_59 : aLook bkX6_nearest 59 = some blX6_nearest_59 := rfl
theorem bqX6_nearest_75 : aLook bkX6_nearest 75 = some blX6_nearest_75 := rfl
theorem bqX6_nearest_90 : aLook bkX6_nearest 90 = some blX6_nearest_90 := rfl
theorem bqX6_nearest_93 : aLook bkX6_nearest 93 = some blX6_nearest_93 := rfl
theorem bqX6_nearest_97 : aLook bkX6_nearest 97 = some blX6_nearest_97 := rfl
theorem bqX6_nearest_103 : aLook bkX6_nearest 103 = some blX6_nearest_103 := rfl
theorem bqX6_nearest_106 : aLook bkX6_nearest 106 = some blX6_nearest_106 := rfl
theorem bqX6_nearest_113 : aLook bkX6_nearest 113 = some blX6_nearest_113 := rfl
theorem boX6_nearest : ∀ pc is, aLook bkX6_nearest pc = some is → aBlk RX6 cX6_nearest 10 false pc is := aBks_ok (lk := lkX6) lkX6_ok (by decide +kernel)
def blX6_scaleTo_0 : List aIn := [(.aload_n 0, 0, 0, 0, []), (.getfield 25, 7, 2, 2, []), (.aload_n 2, 2, 0, 0, []), (.getfield 109, 3, 1, 2, []), (.invokevirtual 112, 2, 0, 0, [])]
def blX6_scaleTo_11 : List aIn := [(.aload_n 0, 0, 0, 0, []), (.getfield 28, 7, 3, 2, []), (.aload_n 2, 2, 0, 0, []), (.getfield 119, 3, 2, 2, []), (.invokevirtual 112, 2, 0, 0, [])]
def blX6_scaleTo_22 : List aIn := [(.aload_n 0, 0, 0, 0, []), (.getfield 25, 7, 2, 2, []), (.invokevirtual 152, 1, 0, 0, [])]
def blX6_scaleTo_29 : List aIn := [(.aload_n 0, 0, 0, 0, []), (.getfield 28, 7, 3, 2, []), (.invokevirtual 152, 1, 0, 0, [])]
def blX6_scaleTo_36 : List aIn := [(.isub, 0, 0, 0, []), (.iload_n 1, 1, 0, 0, []), (.isub, 0, 0, 0, []), (.istore_n 3, 3, 0, 0, []), (.aload_n 0, 0, 0, 0, []), (.getfield 25, 7, 2, 2, []), (.iload_n 3, 3, 0, 0, []), (.ineg, 0, 0, 0, []), (.iconst 0, 0, 0, 0, []), (.invokestatic 170, 2, 0, 0, [])]
def blX6_scaleTo_50 : List aIn := [(.invokevirtual 124, 2, 0, 0, [])]
def blX6_scaleTo_53 : List aIn := [(.aload_n 0, 0, 0, 0, []), (.getfield 28, 7, 3, 2, []), (.iload_n 3, 3, 0, 0, []), (.iconst 0, 0, 0, 0, []), (.invokestatic 170, 2, 0, 0, [])]
def blX6_scaleTo_62 : List aIn := [(.invokevirtual 124, 2, 0, 0, [])]
def blX6_scaleTo_65 : List aIn := [(.aload_n 0, 0, 0, 0, []), (.getfield 25, 7, 2, 2, []), (.aload_n 0, 0, 0, 0, []), (.getfield 28, 7, 3, 2, []), (.aload_n 0, 0, 0, 0, []), (.getfield 21, 7, 1, 2, []), (.aload_n 0, 0, 0, 0, []), (.getfield 31, 7, 4, 2, []), (.invokevirtual 120, 4, 0, 0, [])]
def blX6_scaleTo_84 : List aIn := [(.iload_n 3, 3, 0, 0, []), (.ireturn, 0, 0, 0, [])]
def bkX6_scaleTo : List (Nat × List aIn) := [(0, blX6_scaleTo_0), (11, blX6_scaleTo_11), (22, blX6_scaleTo_22), (29, blX6_scaleTo_29), (36, blX6_scaleTo_36), (50, blX6_scaleTo_50), (53, blX6_scaleTo_53), (62, blX6_scaleTo_62), (65, blX6_scaleTo_65), (84, blX6_scaleTo_84)]
theorem bqX6_scaleTo_0 : aLook bkX6_scaleTo 0 = some blX6_scaleTo_0 := rfl
theorem bqX6_scaleTo_11 : aLook bkX6_scaleTo 11 = some blX6_scaleTo_11 := rfl
theorem bqX6_scaleTo_22 : aLook bkX6_scaleTo 22 = some blX6_scaleTo_22 := rfl
theorem bqX6_scaleTo_29 : aLook bkX6_scaleTo 29 = some blX6_scaleTo_29 := rfl
theorem bqX6_scaleTo_36 : aLook bkX6_scaleTo 36 = some blX6_scaleTo_36 := rfl
theorem bqX6_scaleTo_50 : aLook bkX6_scaleTo 50 = some blX6_scaleTo_50 := rfl
theorem bqX6_scaleTo_53 : aLook bkX6_scaleTo 53 = some blX6_scaleTo_53 := rfl
theorem bqX6_scaleTo_62 : aLook bkX6_scaleTo 62 = some blX6_scaleTo_62 := rfl
theorem bqX6_scaleTo_65 : aLook bkX6_scaleTo 65 = some blX6_scaleTo_65 := rfl
theorem bqX6_scaleTo_84 : aLook bkX6_scaleTo 84 = some blX6_scaleTo_84 := rfl
theorem boX6_scaleTo : ∀ pc is, aLook bkX6_scaleTo pc = some is → aBlk RX6 cX6_scaleTo 4 false pc is := aBks_ok (lk := lkX6) lkX6_ok (by decide +kernel)
def blX6_roundOff_0 : List aIn := [(.aload_n 0, 0, 0, 0, []), (.getfield 21, 7, 1, 2, []), (.invokevirtual 176, 1, 0, 0, [])]
def blX6_roundOff_7 : List aIn := [(.lstore_n 2, 2, 0, 0, []), (.lload_n 2, 2, 0, 0, []), (.iload_n 1, 1, 0, 0, []), (.lshr, 0, 0, 0, []), (.lstore 4, 4, 0, 0, []), (.lload_n 2, 2, 0, 0, []), (.lload 4, 4, 0, 0, []), (.iload_n 1, 1, 0, 0, []), (.lshl, 0, 0, 0, []), (.lsub, 0, 0, 0, []), (.lstore 6, 6, 0, 0, []), (.lconst 1, 1, 0, 0, []), (.iload_n 1, 1, 0, 0, []), (.iconst 1, 1, 0, 0, []), (.isub, 0, 0, 0, []), (.lshl, 0, 0, 0, []), (.lstore 8, 8, 0, 0, []), (.aload_n 0, 0, 0, 0, []), (.lload 6, 6, 0, 0, []), (.lconst 0, 0, 0, 0, []), (.lcmp, 0, 0, 0, []), (.ifCond .ne 17, 50, 0, 0, [])]
def blX6_roundOff_36 : List aIn := [(.aload_n 0, 0, 0, 0, []), (.getfield 25, 7, 2, 2, []), (.invokevirtual 52, 1, 0, 0, [])]
def blX6_roundOff_43 : List aIn := [(.ifCond .eq 7, 50, 0, 0, [])]
def blX6_roundOff_46 : List aIn := [(.iconst 1, 1, 0, 0, []), (.goto 4, 51, 0, 0, [])]
def blX6_roundOff_50 : List aIn := [(.iconst 0, 0, 0, 0, [])]
def blX6_roundOff_51 : List aIn := [(.putfield 102, 7, 5, 1, []), (.lload 6, 6, 0, 0, []), (.lload 8, 8, 0, 0, []), (.lcmp, 0, 0, 0, []), (.ifCond .gt 30, 89, 0, 0, [])]
def blX6_roundOff_62 : List aIn := [(.lload 6, 6, 0, 0, []), (.lload 8, 8, 0, 0, []), (.lcmp, 0, 0, 0, []), (.ifCond .ne 26, 93, 0, 0, [])]
def blX6_roundOff_70 : List aIn := [(.aload_n 0, 0, 0, 0, []), (.getfield 25, 7, 2, 2, []), (.invokevirtual 52, 1, 0, 0, [])]
def blX6_roundOff_77 : List aIn := [(.ifCond .eq 12, 89, 0, 0, [])]
def blX6_roundOff_80 : List aIn := [(.lload 4, 4, 0, 0, []), (.lconst 1, 1, 0, 0, []), (.land, 0, 0, 0, []), (.lconst 1, 1, 0, 0, []), (.lcmp, 0, 0, 0, []), (.ifCond .ne 7, 93, 0, 0, [])]
def blX6_roundOff_89 : List aIn := [(.iconst 1, 1, 0, 0, []), (.goto 4, 94, 0, 0, [])]
def blX6_roundOff_93 : List aIn := [(.iconst 0, 0, 0, 0, [])]
def blX6_roundOff_94 : List aIn := [(.istore 10, 10, 0, 0, []), (.iload 10, 10, 0, 0, []), (.ifCond .eq 10, 108, 0, 0, [])]
def blX6_roundOff_101 : List aIn := [(.lload 4, 4, 0, 0, []), (.lconst 1, 1, 0, 0, []), (.ladd, 0, 0, 0, []), (.goto 5, 110, 0, 0, [])]
def blX6_roundOff_108 : List aIn := [(.lload 4, 4, 0, 0, [])]
def blX6_roundOff_110 : List aIn := [(.lreturn, 0, 0, 0, [])]
def bkX6_roundOff : List (Nat × List aIn) := [(0, blX6_roundOff_0), (7, blX6_roundOff_7), (36, blX6_roundOff_36), (43, blX6_roundOff_43), (46, blX6_roundOff_46), (50, blX6_roundOff_50), (51, blX6_roundOff_51), (62, blX6_roundOff_62), (70, blX6_roundOff_70), (77, blX6_roundOff_77), (80, blX6_roundOff_80), (89, blX6_roundOff_89), (93, blX6_roundOff_93), (94, blX6_roundOff_94), (101, blX6_roundOff_101), (108, blX6_roundOff_108), (110, blX6_roundOff_110)]
theorem bqX6_roundOff_0 : aLook bkX6_roundOff 0 = some blX6_roundOff_0 := rfl
theorem bqX6_roundOff_7 : aLook bkX6_roundOff 7 = some blX6_roundOff_7 := rfl
theorem bqX6_roundOff_36 : aLook bkX6_roundOff 36 = some blX6_roundOff_36 := rfl
theorem bqX6_roundOff_43 : aLook bkX6_roundOff 43 = some blX6_roundOff_43 := rfl
theorem bqX6_roundOff_46 : aLook bkX6_roundOff 46 = some blX6_roundOff_46 := rfl
theorem bqX6_roundOff_50 : aLook bkX6_roundOff 50 = some blX6_roundOff_50 := rfl
theorem bqX6_roundOff_51 : aLook bkX6_roundOff 51 = some blX6_roundOff_51 := rfl
theorem bqX6_roundOff_62 : aLook bkX6_roundOff 62 = some blX6_roundOff_62 := rfl
theorem bqX6_roundOff_70 : aLook bkX6_roundOff 70 = some blX6_roundOff_70 := rfl
theorem bqX6_roundOff_77 : aLook bkX6_roundOff 77 = some blX6_roundOff_77 := rfl
theorem bqX6_roundOff_80 : aLook bkX6_roundOff 80 = some blX6_roundOff_80 := rfl
theorem bqX6_roundOff_89 : aLook bkX6_roundOff 89 = some blX6_roundOff_89 := rfl
theorem bqX6_roundOff_93 : aLook bkX6_roundOff 93 = some blX6_roundOff_93 := rfl
theorem bqX6_roundOff_94 : aLook bkX6_roundOff 94 = some blX6_roundOff_94 := rfl
theorem bqX6_roundOff_101 : aLook bkX6_roundOff 101 = some blX6_roundOff_101 := rfl
theorem bqX6_roundOff_108 : aLook bkX6_roundOff 108 = some blX6_roundOff_108 := rfl
theorem bqX6_roundOff_110 : aLook bkX6_roundOff 110 = some blX6_roundOff_110 := rfl
theorem boX6_roundOff : ∀ pc is, aLook bkX6_roundOff pc = some is → aBlk RX6 cX6_roundOff 11 false pc is := aBks_ok (lk := lkX6) lkX6_ok (by decide +kernel)
