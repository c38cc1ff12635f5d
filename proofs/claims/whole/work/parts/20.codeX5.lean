/-! code of PackedDecimals$Reader (printed by gen.py) -/
def blX5_init_0 : List aIn := [(.aload_n 0, 0, 0, 0, []), (.invokespecial 3, 1, 0, 0, [])]
def blX5_init_4 : List aIn := [(.aload_n 0, 0, 0, 0, []), (.new 9, 4, 2, 0, [2, 0]), (.dup, 0, 0, 0, []), (.invokespecial 11, 1, 0, 0, [])]
def blX5_init_12 : List aIn := [(.putfield 12, 6, 0, 2, []), (.return_, 0, 0, 0, [])]
def bkX5_init : List (Nat × List aIn) := [(0, blX5_init_0), (4, blX5_init_4), (12, blX5_init_12)]
theorem bqX5_init_0 : aLook bkX5_init 0 = some blX5_init_0 := rfl
theorem bqX5_init_4 : aLook bkX5_init 4 = some blX5_init_4 := rfl
theorem bqX5_init_12 : aLook bkX5_init 12 = some blX5_init_12 := rfl
theorem boX5_init : ∀ pc is, aLook bkX5_init pc = some is → aBlk RX5 cX5_init 1 true pc is := aBks_ok (lk := lkX5i) lkX5i_ok (by decide +kernel)
def blX5_read_0 : List aIn := [(.aload_n 2, 2, 0, 0, []), (.iconst 0, 0, 0, 0, []), (.putfield 18, 3, 0, 1, []), (.aload_n 2, 2, 0, 0, []), (.getfield 24, 3, 1, 2, []), (.lconst 0, 0, 0, 0, []), (.invokevirtual 27, 2, 0, 0, [])]
def blX5_read_13 : List aIn := [(.aload_n 2, 2, 0, 0, []), (.getfield 31, 3, 2, 2, []), (.lconst 1, 1, 0, 0, []), (.invokevirtual 27, 2, 0, 0, [])]
def blX5_read_21 : List aIn := [(.aload_n 0, 0, 0, 0, []), (.aload_n 1, 1, 0, 0, []), (.aload_n 2, 2, 0, 0, []), (.invokevirtual 34, 3, 0, 0, [])]
def blX5_read_27 : List aIn := [(.istore_n 3, 3, 0, 0, []), (.aload_n 1, 1, 0, 0, []), (.invokevirtual 38, 1, 0, 0, [])]
def blX5_read_32 : List aIn := [(.ifCond .ne 14, 46, 0, 0, [])]
def blX5_read_35 : List aIn := [(.aload_n 2, 2, 0, 0, []), (.getfield 31, 3, 2, 2, []), (.aload_n 1, 1, 0, 0, []), (.getfield 44, 5, 2, 0, []), (.invokevirtual 48, 2, 0, 0, [])]
def blX5_read_46 : List aIn := [(.aload_n 2, 2, 0, 0, []), (.aload_n 2, 2, 0, 0, []), (.getfield 18, 3, 0, 1, []), (.invokevirtual 52, 2, 0, 0, [])]
def blX5_read_54 : List aIn := [(.iload_n 3, 3, 0, 0, []), (.ireturn, 0, 0, 0, [])]
def bkX5_read : List (Nat × List aIn) := [(0, blX5_read_0), (13, blX5_read_13), (21, blX5_read_21), (27, blX5_read_27), (32, blX5_read_32), (35, blX5_read_35), (46, blX5_read_46), (54, blX5_read_54)]
theorem bqX5_read_0 : aLook bkX5_read 0 = some blX5_read_0 := rfl
theorem bqX5_read_13 : aLook bkX5_read 13 = some blX5_read_13 := rfl
theorem bqX5_read_21 : aLook bkX5_read 21 = some blX5_read_21 := rfl
theorem bqX5_read_27 : aLook bkX5_read 27 = some blX5_read_27 := rfl
theorem bqX5_read_32 : aLook bkX5_read 32 = some blX5_read_32 := rfl
theorem bqX5_read_35 : aLook bkX5_read 35 = some blX5_read_35 := rfl
theorem bqX5_read_46 : aLook bkX5_read 46 = some blX5_read_46 := rfl
theorem bqX5_read_54 : aLook bkX5_read 54 = some blX5_read_54 := rfl
theorem boX5_read : ∀ pc is, aLook bkX5_read pc = some is → aBlk RX5 cX5_read 4 false pc is := aBks_ok (lk := lkX5) lkX5_ok (by decide +kernel)
def blX5_readSize_0 : List aIn := [(.aload_n 1, 1, 0, 0, []), (.getfield 56, 5, 0, 0, []), (.tableswitch 102 5 11 #[44, 44, 51, 81, 88, 88, 95], 5, 106, 0, [48, 48, 55, 85, 92, 92, 99])]
def blX5_readSize_48 : List aIn := [(.aload_n 0, 0, 0, 0, []), (.aload_n 1, 1, 0, 0, []), (.aload_n 2, 2, 0, 0, []), (.invokevirtual 59, 3, 0, 0, [])]
def blX5_readSize_54 : List aIn := [(.ireturn, 0, 0, 0, [])]
def blX5_readSize_55 : List aIn := [(.aload_n 0, 0, 0, 0, []), (.aload_n 1, 1, 0, 0, []), (.aload_n 2, 2, 0, 0, []), (.invokevirtual 62, 3, 0, 0, [])]
def blX5_readSize_61 : List aIn := [(.ifCond .eq 22, 83, 0, 0, [])]
def blX5_readSize_64 : List aIn := [(.aload_n 0, 0, 0, 0, []), (.aload_n 1, 1, 0, 0, []), (.getfield 65, 5, 1, 0, []), (.aload_n 2, 2, 0, 0, []), (.getfield 24, 3, 1, 2, []), (.invokevirtual 68, 3, 0, 0, [])]
def blX5_readSize_76 : List aIn := [(.ifCond .eq 7, 83, 0, 0, [])]
def blX5_readSize_79 : List aIn := [(.iconst 1, 1, 0, 0, []), (.goto 4, 84, 0, 0, [])]
def blX5_readSize_83 : List aIn := [(.iconst 0, 0, 0, 0, [])]
def blX5_readSize_84 : List aIn := [(.ireturn, 0, 0, 0, [])]
def blX5_readSize_85 : List aIn := [(.aload_n 0, 0, 0, 0, []), (.aload_n 1, 1, 0, 0, []), (.aload_n 2, 2, 0, 0, []), (.invokevirtual 62, 3, 0, 0, [])]
def blX5_readSize_91 : List aIn := [(.ireturn, 0, 0, 0, [])]
def blX5_readSize_92 : List aIn := [(.aload_n 0, 0, 0, 0, []), (.aload_n 1, 1, 0, 0, []), (.aload_n 2, 2, 0, 0, []), (.invokevirtual 72, 3, 0, 0, [])]
def blX5_readSize_98 : List aIn := [(.ireturn, 0, 0, 0, [])]
def blX5_readSize_99 : List aIn := [(.aload_n 0, 0, 0, 0, []), (.aload_n 1, 1, 0, 0, []), (.aload_n 2, 2, 0, 0, []), (.invokevirtual 75, 3, 0, 0, [])]
def blX5_readSize_105 : List aIn := [(.ireturn, 0, 0, 0, [])]
def blX5_readSize_106 : List aIn := [(.aload_n 0, 0, 0, 0, []), (.aload_n 1, 1, 0, 0, []), (.aload_n 2, 2, 0, 0, []), (.invokevirtual 78, 3, 0, 0, [])]
def blX5_readSize_112 : List aIn := [(.ireturn, 0, 0, 0, [])]
def bkX5_readSize : List (Nat × List aIn) := [(0, blX5_readSize_0), (48, blX5_readSize_48), (54, blX5_readSize_54), (55, blX5_readSize_55), (61, blX5_readSize_61), (64, blX5_readSize_64), (76, blX5_readSize_76), (79, blX5_readSize_79), (83, blX5_readSize_83), (84, blX5_readSize_84), (85, blX5_readSize_85), (91, blX5_readSize_91), (92, blX5_readSize_92), (98, blX5_readSize_98), (99, blX5_readSize_99), (105, blX5_readSize_105), (106, blX5_readSize_106), (112, blX5_readSize_112)]
theorem bqX5_readSize_0 : aLook bkX5_readSize 0 = some blX5_readSize_0 := rfl
theorem bqX5_readSize_48 : aLook bkX5_readSize 48 = some blX5_readSize_48 := rfl
theorem bqX5_readSize_54 : aLook bkX5_readSize 54 = some blX5_readSize_54 := rfl
theorem bqX5_readSize_55 : aLook bkX5_readSize 55 = some blX5_readSize_55 := rfl
theorem bqX5_readSize_61 : aLook bkX5_readSize 61 = some blX5_readSize_61 := rfl
theorem bqX5_readSize_64 : aLook bkX5_readSize 64 = some blX5_readSize_64 := rfl
theorem bqX5_readSize_76 : aLook bkX5_readSize 76 = some blX5_readSize_76 := rfl
theorem bqX5_readSize_79 : aLook bkX5_readSize 79 = some blX5_readSize_79 := rfl
theorem bqX5_readSize_83 : aLook bkX5_readSize 83 = some blX5_readSize_83 := rfl
theorem bqX5_readSize_84 : aLook bkX5_readSize 84 = some blX5_readSize_84 := rfl
theorem bqX5_readSize_85 : aLook bkX5_readSize 85 = some blX5_readSize_85 := rfl
theorem bqX5_readSize_91 : aLook bkX5_readSize 91 = some blX5_readSize_91 := rfl
theorem bqX5_readSize_92 : aLook bkX5_readSize 92 = some blX5_readSize_92 := rfl
theorem bqX5_readSize_98 : aLook bkX5_readSize 98 = some blX5_readSize_98 := rfl
theorem bqX5_readSize_99 : aLook bkX5_readSize 99 = some blX5_readSize_99 := rfl
theorem bqX5_readSize_105 : aLook bkX5_readSize 105 = some blX5_readSize_105 := rfl
theorem bqX5_readSize_106 : aLook bkX5_readSize 106 = some blX5_readSize_106 := rfl
theorem bqX5_readSize_112 : aLook bkX5_readSize 112 = some blX5_readSize_112 := rfl
theorem boX5_readSize : ∀ pc is, aLook bkX5_readSize pc = some is → aBlk RX5 cX5_readSize 3 false pc is := aBks_ok (lk := lkX5) lkX5_ok (by decide +kernel)
def blX5_readZoned_0 : List aIn := [(.aload_n 1, 1, 0, 0, []), (.invokevirtual 81, 1, 0, 0, [])]
def blX5_readZoned_4 : List aIn := [(.istore_n 3, 3, 0, 0, []), (.aload_n 1, 1, 0, 0, []), (.invokevirtual 85, 1, 0, 0, [])]
def blX5_readZoned_9 : List aIn := [(.istore 4, 4, 0, 0, []), (.iconst 0, 0, 0, 0, []), (.istore 5, 5, 0, 0, [])]
def blX5_readZoned_14 : List aIn := [(.iload 5, 5, 0, 0, []), (.aload_n 1, 1, 0, 0, []), (.getfield 65, 5, 1, 0, []), (.if_icmp .ge 75, 95, 0, 0, [])]
def blX5_readZoned_23 : List aIn := [(.aload_n 1, 1, 0, 0, []), (.iload_n 3, 3, 0, 0, []), (.iload 5, 5, 0, 0, []), (.iadd, 0, 0, 0, []), (.invokevirtual 88, 2, 0, 0, [])]
def blX5_readZoned_31 : List aIn := [(.istore 6, 6, 0, 0, []), (.iload 5, 5, 0, 0, []), (.iload 4, 4, 0, 0, []), (.if_icmp .ne 17, 54, 0, 0, [])]
def blX5_readZoned_40 : List aIn := [(.iload 6, 6, 0, 0, []), (.iconst 4, 4, 0, 0, []), (.ishr, 0, 0, 0, []), (.invokestatic 92, 1, 0, 0, [])]
def blX5_readZoned_47 : List aIn := [(.aload_n 2, 2, 0, 0, []), (.invokestatic 95, 2, 0, 0, [])]
def blX5_readZoned_51 : List aIn := [(.goto 17, 68, 0, 0, [])]
def blX5_readZoned_54 : List aIn := [(.iload 6, 6, 0, 0, []), (.iconst 4, 4, 0, 0, []), (.ishr, 0, 0, 0, []), (.bipush 15, 15, 0, 0, []), (.if_icmp .ne 7, 67, 0, 0, [])]
def blX5_readZoned_63 : List aIn := [(.iconst 1, 1, 0, 0, []), (.goto 4, 68, 0, 0, [])]
def blX5_readZoned_67 : List aIn := [(.iconst 0, 0, 0, 0, [])]
def blX5_readZoned_68 : List aIn := [(.istore 7, 7, 0, 0, []), (.iload 7, 7, 0, 0, []), (.ifCond .eq 15, 87, 0, 0, [])]
def blX5_readZoned_75 : List aIn := [(.iload 6, 6, 0, 0, []), (.bipush 15, 15, 0, 0, []), (.iand, 0, 0, 0, []), (.aload_n 2, 2, 0, 0, []), (.invokestatic 99, 2, 0, 0, [])]
def blX5_readZoned_84 : List aIn := [(.ifCond .ne 5, 89, 0, 0, [])]
def blX5_readZoned_87 : List aIn := [(.iconst 0, 0, 0, 0, []), (.ireturn, 0, 0, 0, [])]
def blX5_readZoned_89 : List aIn := [(.iinc 5 1, 5, 0, 0, []), (.goto (-78), 14, 0, 0, [])]
def blX5_readZoned_95 : List aIn := [(.aload_n 1, 1, 0, 0, []), (.invokevirtual 102, 1, 0, 0, [])]
def blX5_readZoned_99 : List aIn := [(.istore 5, 5, 0, 0, []), (.iload 5, 5, 0, 0, []), (.iconst (-1), 1, 1, 0, []), (.if_icmp .eq 23, 127, 0, 0, [])]
def blX5_readZoned_107 : List aIn := [(.aload_n 1, 1, 0, 0, []), (.iload 5, 5, 0, 0, []), (.invokevirtual 88, 2, 0, 0, [])]
def blX5_readZoned_113 : List aIn := [(.bipush 78, 78, 0, 0, []), (.bipush 96, 96, 0, 0, []), (.invokestatic 105, 3, 0, 0, [])]
def blX5_readZoned_120 : List aIn := [(.aload_n 2, 2, 0, 0, []), (.invokestatic 95, 2, 0, 0, [])]
def blX5_readZoned_124 : List aIn := [(.ifCond .eq 7, 131, 0, 0, [])]
def blX5_readZoned_127 : List aIn := [(.iconst 1, 1, 0, 0, []), (.goto 4, 132, 0, 0, [])]
def blX5_readZoned_131 : List aIn := [(.iconst 0, 0, 0, 0, [])]
def blX5_readZoned_132 : List aIn := [(.ireturn, 0, 0, 0, [])]
def bkX5_readZoned : List (Nat × List aIn) := [(0, blX5_readZoned_0), (4, blX5_readZoned_4), (9, blX5_readZoned_9), (14, blX5_readZoned_14), (23, blX5_readZoned_23), (31, blX5_readZoned_31), (40, blX5_readZoned_40), (47, blX5_readZoned_47), (51, blX5_readZoned_51), (54, blX5_readZoned_54), (63, blX5_readZoned_63), (67, blX5_readZoned_67), (68, blX5_readZoned_68), (75, blX5_readZoned_75), (84, blX5_readZoned_84), (87, blX5_readZoned_87), (89, blX5_readZoned_89), (95, blX5_readZoned_95), (99, blX5_readZoned_99), (107, blX5_readZoned_107), (113, blX5_readZoned_113), (120, blX5_readZoned_120), (124, blX5_readZoned_124), (127, blX5_readZoned_127), (131, blX5_readZoned_131), (132, blX5_readZoned_132)]
theorem bqX5_readZoned_0 : aLook bkX5_readZoned 0 = some blX5_readZoned_0 := rfl
theorem bqX5_readZoned_4 : aLook bkX5_readZoned 4 = some blX5_readZoned_4 := rfl
theorem bqX5_readZoned_9 : aLook bkX5_readZoned 9 = some blX5_readZoned_9 := rfl
theorem bqX5_readZoned_14 : aLook bkX5_readZoned 14 = some blX5_readZoned_14 := rfl
theorem bqX5_readZoned_23 : aLook bkX5_readZoned 23 = some blX5_readZoned_23 := rfl
theorem bqX5_readZoned_31 : aLook bkX5_readZoned 31 = some blX5_readZoned_31 := rfl
theorem bqX5_readZoned_40 : aLook bkX5_readZoned 40 = some blX5_readZoned_40 := rfl
theorem bqX5_readZoned_47 : aLook bkX5_readZoned 47 = some blX5_readZoned_47 := rfl
theorem bqX5_readZoned_51 : aLook bkX5_readZoned 51 = some blX5_readZoned_51 := rfl
theorem bqX5_readZoned_54 : aLook bkX5_readZoned 54 = some blX5_readZoned_54 := rfl
theorem bqX5_readZoned_63 : aLook bkX5_readZoned 63 = some blX5_readZoned_63 := rfl
theorem bqX5_readZoned_67 : aLook bkX5_readZoned 67 = some blX5_readZoned_67 := rfl
theorem bqX5_readZoned_68 : aLook bkX5_readZoned 68 = some blX5_readZoned_68 := rfl
theorem bqX5_readZoned_75 : aLook bkX5_readZoned 75 = some blX5_readZoned_75 := rfl
theorem bqX5_readZoned_84 : aLook bkX5_readZoned 84 = some blX5_readZoned_84 := rfl
theorem bqX5_readZoned_87 : aLook bkX5_readZoned 87 = some blX5_readZoned_87 := rfl
theorem bqX5_readZoned_89 : aLook bkX5_readZoned 89 = some blX5_readZoned_89 := rfl
theorem bqX5_readZoned_95 : aLook bkX5_readZoned 95 = some blX5_readZoned_95 := rfl
theorem bqX5_readZoned_99 : aLook bkX5_readZoned 99 = some blX5_readZoned_99 := rfl
theorem bqX5_readZoned_107 : aLook bkX5_readZoned 107 = some blX5_readZoned_107 := rfl
theorem bqX5_readZoned_113 : aLook bkX5_readZoned 113 = some blX5_readZoned_113 := rfl
theorem bqX5_readZoned_120 : aLook bkX5_readZoned 120 = some blX5_readZoned_120 := rfl
theorem bqX5_readZoned_124 : aLook bkX5_readZoned 124 = some blX5_readZoned_124 := rfl
theorem bqX5_readZoned_127 : aLook bkX5_readZoned 127 = some blX5_readZoned_127 := rfl
theorem bqX5_readZoned_131 : aLook bkX5_readZoned 131 = some blX5_readZoned_131 := rfl
theorem bqX5_readZoned_132 : aLook bkX5_readZoned 132 = some blX5_readZoned_132 := rfl
theorem boX5_readZoned : ∀ pc is, aLook bkX5_readZoned pc = some is → aBlk RX5 cX5_readZoned 8 false pc is := aBks_ok (lk := lkX5) lkX5_ok (by decide +kernel)
def blX5_readPacked_0 : List aIn := [(.aload_n 1, 1, 0, 0, []), (.invokevirtual 109, 1, 0, 0, [])]
def blX5_readPacked_4 : List aIn := [(.istore_n 3, 3, 0, 0, []), (.iload_n 3, 3, 0, 0, []), (.iconst 1, 1, 0, 0, []), (.if_icmp .ne 13, 20, 0, 0, [])]
def blX5_readPacked_10 : List aIn := [(.aload_n 1, 1, 0, 0, []), (.iconst 0, 0, 0, 0, []), (.invokevirtual 112, 2, 0, 0, [])]
def blX5_readPacked_15 : List aIn := [(.ifCond .eq 5, 20, 0, 0, [])]
def blX5_readPacked_18 : List aIn := [(.iconst 0, 0, 0, 0, []), (.ireturn, 0, 0, 0, [])]
def blX5_readPacked_20 : List aIn := [(.iconst 0, 0, 0, 0, []), (.istore 4, 4, 0, 0, [])]
def blX5_readPacked_23 : List aIn := [(.iload 4, 4, 0, 0, []), (.aload_n 1, 1, 0, 0, []), (.getfield 65, 5, 1, 0, []), (.if_icmp .ge 26, 55, 0, 0, [])]
def blX5_readPacked_32 : List aIn := [(.aload_n 1, 1, 0, 0, []), (.iload_n 3, 3, 0, 0, []), (.iload 4, 4, 0, 0, []), (.iadd, 0, 0, 0, []), (.invokevirtual 112, 2, 0, 0, [])]
def blX5_readPacked_40 : List aIn := [(.aload_n 2, 2, 0, 0, []), (.invokestatic 99, 2, 0, 0, [])]
def blX5_readPacked_44 : List aIn := [(.ifCond .ne 5, 49, 0, 0, [])]
def blX5_readPacked_47 : List aIn := [(.iconst 0, 0, 0, 0, []), (.ireturn, 0, 0, 0, [])]
def blX5_readPacked_49 : List aIn := [(.iinc 4 1, 4, 0, 0, []), (.goto (-29), 23, 0, 0, [])]
def blX5_readPacked_55 : List aIn := [(.aload_n 1, 1, 0, 0, []), (.iload_n 3, 3, 0, 0, []), (.aload_n 1, 1, 0, 0, []), (.getfield 65, 5, 1, 0, []), (.iadd, 0, 0, 0, []), (.invokevirtual 112, 2, 0, 0, [])]
def blX5_readPacked_65 : List aIn := [(.istore 4, 4, 0, 0, []), (.aload_n 1, 1, 0, 0, []), (.invokevirtual 115, 1, 0, 0, [])]
def blX5_readPacked_71 : List aIn := [(.ifCond .eq 18, 89, 0, 0, [])]
def blX5_readPacked_74 : List aIn := [(.iload 4, 4, 0, 0, []), (.bipush 15, 15, 0, 0, []), (.if_icmp .ne 7, 85, 0, 0, [])]
def blX5_readPacked_81 : List aIn := [(.iconst 1, 1, 0, 0, []), (.goto 16, 98, 0, 0, [])]
def blX5_readPacked_85 : List aIn := [(.iconst 0, 0, 0, 0, []), (.goto 12, 98, 0, 0, [])]
def blX5_readPacked_89 : List aIn := [(.iload 4, 4, 0, 0, []), (.invokestatic 92, 1, 0, 0, [])]
def blX5_readPacked_94 : List aIn := [(.aload_n 2, 2, 0, 0, []), (.invokestatic 95, 2, 0, 0, [])]
def blX5_readPacked_98 : List aIn := [(.ireturn, 0, 0, 0, [])]
def bkX5_readPacked : List (Nat × List aIn) := [(0, blX5_readPacked_0), (4, blX5_readPacked_4), (10, blX5_readPacked_10), (15, blX5_readPacked_15), (18, blX5_readPacked_18), (20, blX5_readPacked_20), (23, blX5_readPacked_23), (32, blX5_readPacked_32), (40, blX5_readPacked_40), (44, blX5_readPacked_44), (47, blX5_readPacked_47), (49, blX5_readPacked_49), (55, blX5_readPacked_55), (65, blX5_readPacked_65), (71, blX5_readPacked_71), (74, blX5_readPacked_74), (81, blX5_readPacked_81), (85, blX5_readPacked_85), (89, blX5_readPacked_89), (94, blX5_readPacked_94), (98, blX5_readPacked_98)]
theorem bqX5_readPacked_0 : aLook bkX5_readPacked 0 = some blX5_readPacked_0 := rfl
theorem bqX5_readPacked_4 : aLook bkX5_readPacked 4 = some blX5_readPacked_4 := rfl
theorem bqX5_readPacked_10 : aLook bkX5_readPacked 10 = some blX5_readPacked_10 := rfl
theorem bqX5_readPacked_15 : aLook bkX5_readPacked 15 = some blX5_readPacked_15 := rfl
theorem bqX5_readPacked_18 : aLook bkX5_readPacked 18 = some blX5_readPacked_18 := rfl
theorem bqX5_readPacked_20 : aLook bkX5_readPacked 20 = some blX5_readPacked_20 := rfl
theorem bqX5_readPacked_23 : aLook bkX5_readPacked 23 = some blX5_readPacked_23 := rfl
theorem bqX5_readPacked_32 : aLook bkX5_readPacked 32 = some blX5_readPacked_32 := rfl
theorem bqX5_readPacked_40 : aLook bkX5_readPacked 40 = some blX5_readPacked_40 := rfl
theorem bqX5_readPacked_44 : aLook bkX5_readPacked 44 = some blX5_readPacked_44 := rfl
theorem bqX5_readPacked_47 : aLook bkX5_readPacked 47 = some blX5_readPacked_47 := rfl
theorem bqX5_readPacked_49 : aLook bkX5_readPacked 49 = some blX5_readPacked_49 := rfl
theorem bqX5_readPacked_55 : aLook bkX5_readPacked 55 = some blX5_readPacked_55 := rfl
theorem bqX5_readPacked_65 : aLook bkX5_readPacked 65 = some blX5_readPacked_65 := rfl
theorem bqX5_readPacked_71 : aLook bkX5_readPacked 71 = some blX5_readPacked_71 := rfl
theorem bqX5_readPacked_74 : aLook bkX5_readPacked 74 = some blX5_readPacked_74 := rfl
theorem bqX5_readPacked_81 : aLook bkX5_readPacked 81 = some blX5_readPacked_81 := rfl
theorem bqX5_readPacked_85 : aLook bkX5_readPacked 85 = some blX5_readPacked_85 := rfl
theorem bqX5_readPacked_89 : aLook bkX5_readPacked 89 = some blX5_readPacked_89 := rfl
theorem bqX5_readPacked_94 : aLook bkX5_readPacked 94 = some blX5_readPacked_94 := rfl
theorem bqX5_readPacked_98 : aLook bkX5_readPacked 98 = some blX5_readPacked_98 := rfl
theorem boX5_readPacked : ∀ pc is, aLook bkX5_readPacked pc = some is → aBlk RX5 cX5_readPacked 5 false pc is := aBks_ok (lk := lkX5) lkX5_ok (by decide +kernel)
def blX5_readNational_0 : List aIn := [(.iconst 0, 0, 0, 0, []), (.istore_n 3, 3, 0, 0, [])]
def blX5_readNational_2 : List aIn := [(.iload_n 3, 3, 0, 0, []), (.aload_n 1, 1, 0, 0, []), (.getfield 65, 5, 1, 0, []), (.if_icmp .ge 52, 59, 0, 0, [])]
def blX5_readNational_10 : List aIn := [(.aload_n 1, 1, 0, 0, []), (.iconst 2, 2, 0, 0, []), (.iload_n 3, 3, 0, 0, []), (.imul, 0, 0, 0, []), (.iconst 1, 1, 0, 0, []), (.iadd, 0, 0, 0, []), (.invokevirtual 88, 2, 0, 0, [])]
def blX5_readNational_19 : List aIn := [(.istore 4, 4, 0, 0, []), (.aload_n 1, 1, 0, 0, []), (.iconst 2, 2, 0, 0, []), (.iload_n 3, 3, 0, 0, []), (.imul, 0, 0, 0, []), (.invokevirtual 88, 2, 0, 0, [])]
def blX5_readNational_28 : List aIn := [(.ifCond .ne 23, 51, 0, 0, [])]
def blX5_readNational_31 : List aIn := [(.iload 4, 4, 0, 0, []), (.iconst 4, 4, 0, 0, []), (.ishr, 0, 0, 0, []), (.iconst 3, 3, 0, 0, []), (.if_icmp .ne 15, 51, 0, 0, [])]
def blX5_readNational_39 : List aIn := [(.iload 4, 4, 0, 0, []), (.bipush 15, 15, 0, 0, []), (.iand, 0, 0, 0, []), (.aload_n 2, 2, 0, 0, []), (.invokestatic 99, 2, 0, 0, [])]
def blX5_readNational_48 : List aIn := [(.ifCond .ne 5, 53, 0, 0, [])]
def blX5_readNational_51 : List aIn := [(.iconst 0, 0, 0, 0, []), (.ireturn, 0, 0, 0, [])]
def blX5_readNational_53 : List aIn := [(.iinc 3 1, 3, 0, 0, []), (.goto (-54), 2, 0, 0, [])]
def blX5_readNational_59 : List aIn := [(.iconst 2, 2, 0, 0, []), (.aload_n 1, 1, 0, 0, []), (.getfield 65, 5, 1, 0, []), (.imul, 0, 0, 0, []), (.istore_n 3, 3, 0, 0, []), (.aload_n 1, 1, 0, 0, []), (.iload_n 3, 3, 0, 0, []), (.invokevirtual 88, 2, 0, 0, [])]
def blX5_readNational_71 : List aIn := [(.ifCond .ne 28, 99, 0, 0, [])]
def blX5_readNational_74 : List aIn := [(.aload_n 1, 1, 0, 0, []), (.iload_n 3, 3, 0, 0, []), (.iconst 1, 1, 0, 0, []), (.iadd, 0, 0, 0, []), (.invokevirtual 88, 2, 0, 0, [])]
def blX5_readNational_81 : List aIn := [(.bipush 43, 43, 0, 0, []), (.bipush 45, 45, 0, 0, []), (.invokestatic 105, 3, 0, 0, [])]
def blX5_readNational_88 : List aIn := [(.aload_n 2, 2, 0, 0, []), (.invokestatic 95, 2, 0, 0, [])]
def blX5_readNational_92 : List aIn := [(.ifCond .eq 7, 99, 0, 0, [])]
def blX5_readNational_95 : List aIn := [(.iconst 1, 1, 0, 0, []), (.goto 4, 100, 0, 0, [])]
def blX5_readNational_99 : List aIn := [(.iconst 0, 0, 0, 0, [])]
def blX5_readNational_100 : List aIn := [(.ireturn, 0, 0, 0, [])]
def bkX5_readNational : List (Nat × List aIn) := [(0, blX5_readNational_0), (2, blX5_readNational_2), (10, blX5_readNational_10), (19, blX5_readNational_19), (28, blX5_readNational_28), (31, blX5_readNational_31), (39, blX5_readNational_39), (48, blX5_readNational_48), (51, blX5_readNational_51), (53, blX5_readNational_53), (59, blX5_readNational_59), (71, blX5_readNational_71), (74, blX5_readNational_74), (81, blX5_readNational_81), (88, blX5_readNational_88), (92, blX5_readNational_92), (95, blX5_readNational_95), (99, blX5_readNational_99), (100, blX5_readNational_100)]
theorem bqX5_readNational_0 : aLook bkX5_readNational 0 = some blX5_readNational_0 := rfl
theorem bqX5_readNational_2 : aLook bkX5_readNational 2 = some blX5_readNational_2 := rfl
theorem bqX5_readNational_10 : aLook bkX5_readNational 10 = some blX5_readNational_10 := rfl
theorem bqX5_readNational_19 : aLook bkX5_readNational 19 = some blX5_readNational_19 := rfl
theorem bqX5_readNational_28 : aLook bkX5_readNational 28 = some blX5_readNational_28 := rfl
theorem bqX5_readNational_31 : aLook bkX5_readNational 31 = some blX5_readNational_31 := rfl
theorem bqX5_readNational_39 : aLook bkX5_readNational 39 = some blX5_readNational_39 := rfl
theorem bqX5_readNational_48 : aLook bkX5_readNational 48 = some blX5_readNational_48 := rfl
theorem bqX5_readNational_51 : aLook bkX5_readNational 51 = some blX5_readNational_51 := rfl
theorem bqX5_readNational_53 : aLook bkX5_readNational 53 = some blX5_readNational_53 := rfl
theorem bqX5_readNational_59 : aLook bkX5_readNational 59 = some blX5_readNational_59 := rfl
theorem bqX5_readNational_71 : aLook bkX5_readNational 71 = some blX5_readNational_71 := rfl
theorem bqX5_readNational_74 : aLook bkX5_readNational 74 = some blX5_readNational_74 := rfl
theorem bqX5_readNational_81 : aLook bkX5_readNational 81 = some blX5_readNational_81 := rfl
theorem bqX5_readNational_88 : aLook bkX5_readNational 88 = some blX5_readNational_88 := rfl
theorem bqX5_readNational_92 : aLook bkX5_readNational 92 = some blX5_readNational_92 := rfl
theorem bqX5_readNational_95 : aLook bkX5_readNational 95 = some blX5_readNational_95 := rfl
theorem bqX5_readNational_99 : aLook bkX5_readNational 99 = some blX5_readNational_99 := rfl
theorem bqX5_readNational_100 : aLook bkX5_readNational 100 = some blX5_readNational_100 := rfl
theorem boX5_readNational : ∀ pc is, aLook bkX5_readNational pc = some is → aBlk RX5 cX5_readNational 5 false pc is := aBks_ok (lk := lkX5) lkX5_ok (by decide +kernel)
def blX5_readBinary_0 : List aIn := [(.aload_n 2, 2, 0, 0, []), (.aload_n 1, 1, 0, 0, []), (.iconst 0, 0, 0, 0, []), (.invokevirtual 88, 2, 0, 0, [])]
def blX5_readBinary_6 : List aIn := [(.sipush 128, 128, 0, 0, []), (.if_icmp .lt 7, 16, 0, 0, [])]
def blX5_readBinary_12 : List aIn := [(.iconst 1, 1, 0, 0, []), (.goto 4, 17, 0, 0, [])]
def blX5_readBinary_16 : List aIn := [(.iconst 0, 0, 0, 0, [])]
def blX5_readBinary_17 : List aIn := [(.putfield 18, 3, 0, 1, []), (.iconst 0, 0, 0, 0, []), (.istore_n 3, 3, 0, 0, [])]
def blX5_readBinary_22 : List aIn := [(.iload_n 3, 3, 0, 0, []), (.aload_n 1, 1, 0, 0, []), (.getfield 118, 5, 3, 2, []), (.arraylength, 0, 0, 0, []), (.if_icmp .ge 44, 72, 0, 0, [])]
def blX5_readBinary_31 : List aIn := [(.aload_n 1, 1, 0, 0, []), (.iload_n 3, 3, 0, 0, []), (.invokevirtual 88, 2, 0, 0, [])]
def blX5_readBinary_36 : List aIn := [(.istore 4, 4, 0, 0, []), (.aload_n 2, 2, 0, 0, []), (.getfield 24, 3, 1, 2, []), (.sipush 256, 256, 0, 0, []), (.aload_n 2, 2, 0, 0, []), (.getfield 18, 3, 0, 1, []), (.ifCond .eq 12, 61, 0, 0, [])]
def blX5_readBinary_52 : List aIn := [(.sipush 255, 255, 0, 0, []), (.iload 4, 4, 0, 0, []), (.isub, 0, 0, 0, []), (.goto 5, 63, 0, 0, [])]
def blX5_readBinary_61 : List aIn := [(.iload 4, 4, 0, 0, [])]
def blX5_readBinary_63 : List aIn := [(.invokevirtual 122, 3, 0, 0, [])]
def blX5_readBinary_66 : List aIn := [(.iinc 3 1, 3, 0, 0, []), (.goto (-47), 22, 0, 0, [])]
def blX5_readBinary_72 : List aIn := [(.aload_n 2, 2, 0, 0, []), (.getfield 18, 3, 0, 1, []), (.ifCond .eq 12, 88, 0, 0, [])]
def blX5_readBinary_79 : List aIn := [(.aload_n 2, 2, 0, 0, []), (.getfield 24, 3, 1, 2, []), (.iconst 1, 1, 0, 0, []), (.iconst 1, 1, 0, 0, []), (.invokevirtual 122, 3, 0, 0, [])]
def blX5_readBinary_88 : List aIn := [(.iconst 1, 1, 0, 0, []), (.ireturn, 0, 0, 0, [])]
def bkX5_readBinary : List (Nat × List aIn) := [(0, blX5_readBinary_0), (6, blX5_readBinary_6), (12, blX5_readBinary_12), (16, blX5_readBinary_16), (17, blX5_readBinary_17), (22, blX5_readBinary_22), (31, blX5_readBinary_31), (36, blX5_readBinary_36), (52, blX5_readBinary_52), (61, blX5_readBinary_61), (63, blX5_readBinary_63), (66, blX5_readBinary_66), (72, blX5_readBinary_72), (79, blX5_readBinary_79), (88, blX5_readBinary_88)]
theorem bqX5_readBinary_0 : aLook bkX5_readBinary 0 = some blX5_readBinary_0 := rfl
theorem bqX5_readBinary_6 : aLook bkX5_readBinary 6 = some blX5_readBinary_6 := rfl
theorem bqX5_readBinary_12 : aLook bkX5_readBinary 12 = some blX5_readBinary_12 := rfl
theorem bqX5_readBinary_16 : aLook bkX5_readBinary 16 = some blX5_readBinary_16 := rfl
theorem bqX5_readBinary_17 : aLook bkX5_readBinary 17 = some blX5_readBinary_17 := rfl
theorem bqX5_readBinary_22 : aLook bkX5_readBinary 22 = some blX5_readBinary_22 := rfl
theorem bqX5_readBinary_31 : aLook bkX5_readBinary 31 = some blX5_readBinary_31 := rfl
theorem bqX5_readBinary_36 : aLook bkX5_readBinary 36 = some blX5_readBinary_36 := rfl
theorem bqX5_readBinary_52 : aLook bkX5_readBinary 52 = some blX5_readBinary_52 := rfl
theorem bqX5_readBinary_61 : aLook bkX5_readBinary 61 = some blX5_readBinary_61 := rfl
theorem bqX5_readBinary_63 : aLook bkX5_readBinary 63 = some blX5_readBinary_63 := rfl
theorem bqX5_readBinary_66 : aLook bkX5_readBinary 66 = some blX5_readBinary_66 := rfl
theorem bqX5_readBinary_72 : aLook bkX5_readBinary 72 = some blX5_readBinary_72 := rfl
theorem bqX5_readBinary_79 : aLook bkX5_readBinary 79 = some blX5_readBinary_79 := rfl
theorem bqX5_readBinary_88 : aLook bkX5_readBinary 88 = some blX5_readBinary_88 := rfl
theorem boX5_readBinary : ∀ pc is, aLook bkX5_readBinary pc = some is → aBlk RX5 cX5_readBinary 5 false pc is := aBks_ok (lk := lkX5) lkX5_ok (by decide +kernel)
def blX5_readFloating_0 : List aIn := [(.aload_n 1, 1, 0, 0, []), (.iconst 0, 0, 0, 0, []), (.invokevirtual 88, 2, 0, 0, [])]
def blX5_readFloating_5 : List aIn := [(.bipush 127, 127, 0, 0, []), (.iand, 0, 0, 0, []), (.i2l, 0, 0, 0, []), (.lstore_n 3, 3, 0, 0, []), (.iconst 1, 1, 0, 0, []), (.istore 5, 5, 0, 0, [])]
def blX5_readFloating_13 : List aIn := [(.iload 5, 5, 0, 0, []), (.aload_n 1, 1, 0, 0, []), (.getfield 118, 5, 3, 2, []), (.arraylength, 0, 0, 0, []), (.if_icmp .ge 22, 42, 0, 0, [])]
def blX5_readFloating_23 : List aIn := [(.lload_n 3, 3, 0, 0, []), (.bipush 8, 8, 0, 0, []), (.lshl, 0, 0, 0, []), (.aload_n 1, 1, 0, 0, []), (.iload 5, 5, 0, 0, []), (.invokevirtual 88, 2, 0, 0, [])]
def blX5_readFloating_33 : List aIn := [(.i2l, 0, 0, 0, []), (.lor, 0, 0, 0, []), (.lstore_n 3, 3, 0, 0, []), (.iinc 5 1, 5, 0, 0, []), (.goto (-26), 13, 0, 0, [])]
def blX5_readFloating_42 : List aIn := [(.lload_n 3, 3, 0, 0, []), (.lconst 0, 0, 0, 0, []), (.lcmp, 0, 0, 0, []), (.ifCond .ne 5, 50, 0, 0, [])]
def blX5_readFloating_48 : List aIn := [(.iconst 1, 1, 0, 0, []), (.ireturn, 0, 0, 0, [])]
def blX5_readFloating_50 : List aIn := [(.aload_n 1, 1, 0, 0, []), (.lload_n 3, 3, 0, 0, []), (.invokestatic 126, 2, 0, 0, [])]
def blX5_readFloating_55 : List aIn := [(.ifCond .ne 11, 66, 0, 0, [])]
def blX5_readFloating_58 : List aIn := [(.aload_n 1, 1, 0, 0, []), (.lload_n 3, 3, 0, 0, []), (.invokestatic 132, 2, 0, 0, [])]
def blX5_readFloating_63 : List aIn := [(.ifCond .eq 5, 68, 0, 0, [])]
def blX5_readFloating_66 : List aIn := [(.iconst 0, 0, 0, 0, []), (.ireturn, 0, 0, 0, [])]
def blX5_readFloating_68 : List aIn := [(.aload_n 1, 1, 0, 0, []), (.invokestatic 135, 1, 0, 0, [])]
def blX5_readFloating_72 : List aIn := [(.iconst 1, 1, 0, 0, []), (.isub, 0, 0, 0, []), (.istore 5, 5, 0, 0, []), (.lload_n 3, 3, 0, 0, []), (.iload 5, 5, 0, 0, []), (.lshr, 0, 0, 0, []), (.l2i, 0, 0, 0, []), (.aload_n 1, 1, 0, 0, []), (.invokestatic 139, 1, 0, 0, [])]
def blX5_readFloating_85 : List aIn := [(.isub, 0, 0, 0, []), (.iload 5, 5, 0, 0, []), (.isub, 0, 0, 0, []), (.istore 6, 6, 0, 0, []), (.aload_n 2, 2, 0, 0, []), (.aload_n 1, 1, 0, 0, []), (.iconst 0, 0, 0, 0, []), (.invokevirtual 88, 2, 0, 0, [])]
def blX5_readFloating_97 : List aIn := [(.sipush 128, 128, 0, 0, []), (.if_icmp .lt 7, 107, 0, 0, [])]
def blX5_readFloating_103 : List aIn := [(.iconst 1, 1, 0, 0, []), (.goto 4, 108, 0, 0, [])]
def blX5_readFloating_107 : List aIn := [(.iconst 0, 0, 0, 0, [])]
def blX5_readFloating_108 : List aIn := [(.putfield 18, 3, 0, 1, []), (.aload_n 2, 2, 0, 0, []), (.getfield 24, 3, 1, 2, []), (.lload_n 3, 3, 0, 0, []), (.lconst 1, 1, 0, 0, []), (.iload 5, 5, 0, 0, []), (.lshl, 0, 0, 0, []), (.lconst 1, 1, 0, 0, []), (.lsub, 0, 0, 0, []), (.land, 0, 0, 0, []), (.lconst 1, 1, 0, 0, []), (.iload 5, 5, 0, 0, []), (.lshl, 0, 0, 0, []), (.lor, 0, 0, 0, []), (.invokevirtual 27, 2, 0, 0, [])]
def blX5_readFloating_131 : List aIn := [(.aload_n 2, 2, 0, 0, []), (.getfield 24, 3, 1, 2, []), (.iload 6, 6, 0, 0, []), (.iconst 0, 0, 0, 0, []), (.invokestatic 142, 2, 0, 0, [])]
def blX5_readFloating_141 : List aIn := [(.invokevirtual 148, 2, 0, 0, [])]
def blX5_readFloating_144 : List aIn := [(.aload_n 2, 2, 0, 0, []), (.getfield 31, 3, 2, 2, []), (.iload 6, 6, 0, 0, []), (.ineg, 0, 0, 0, []), (.iconst 0, 0, 0, 0, []), (.invokestatic 142, 2, 0, 0, [])]
def blX5_readFloating_155 : List aIn := [(.invokevirtual 148, 2, 0, 0, [])]
def blX5_readFloating_158 : List aIn := [(.iconst 1, 1, 0, 0, []), (.ireturn, 0, 0, 0, [])]
def bkX5_readFloating : List (Nat × List aIn) := [(0, blX5_readFloating_0), (5, blX5_readFloating_5), (13, blX5_readFloating_13), (23, blX5_readFloating_23), (33, blX5_readFloating_33), (42, blX5_readFloating_42), (48, blX5_readFloating_48), (50, blX5_readFloating_50), (55, blX5_readFloating_55), (58, blX5_readFloating_58), (63, blX5_readFloating_63), (66, blX5_readFloating_66), (68, blX5_readFloating_68), (72, blX5_readFloating_72), (85, blX5_readFloating_85), (97, blX5_readFloating_97), (103, blX5_readFloating_103), (107, blX5_readFloating_107), (108, blX5_readFloating_108), (131, blX5_readFloating_131), (141, blX5_readFloating_141), (144, blX5_readFloating_144), (155, blX5_readFloating_155), (158, blX5_readFloating_158)]
theorem bqX5_readFloating_0 : aLook bkX5_readFloating 0 = some blX5_readFloating_0 := rfl
theorem bqX5_readFloating_5 : aLook bkX5_readFloating 5 = some blX5_readFloating_5 := rfl
theorem bqX5_readFloating_13 : aLook bkX5_readFloating 13 = some blX5_readFloating_13 := rfl
theorem bqX5_readFloating_23 : aLook bkX5_readFloating 23 = some blX5_readFloating_23 := rfl
theorem bqX5_readFloating_33 : aLook bkX5_readFloating 33 = some blX5_readFloating_33 := rfl
theorem bqX5_readFloating_42 : aLook bkX5_readFloating 42 = some blX5_readFloating_42 := rfl
theorem bqX5_readFloating_48 : aLook bkX5_readFloating 48 = some blX5_readFloating_48 := rfl
theorem bqX5_readFloating_50 : aLook bkX5_readFloating 50 = some blX5_readFloating_50 := rfl
theorem bqX5_readFloating_55 : aLook bkX5_readFloating 55 = some blX5_readFloating_55 := rfl
theorem bqX5_readFloating_58 : aLook bkX5_readFloating 58 = some blX5_readFloating_58 := rfl
theorem bqX5_readFloating_63 : aLook bkX5_readFloating 63 = some blX5_readFloating_63 := rfl
theorem bqX5_readFloating_66 : aLook bkX5_readFloating 66 = some blX5_readFloating_66 := rfl
theorem bqX5_readFloating_68 : aLook bkX5_readFloating 68 = some blX5_readFloating_68 := rfl
theorem bqX5_readFloating_72 : aLook bkX5_readFloating 72 = some blX5_readFloating_72 := rfl
theorem bqX5_readFloating_85 : aLook bkX5_readFloating 85 = some blX5_readFloating_85 := rfl
theorem bqX5_readFloating_97 : aLook bkX5_readFloating 97 = some blX5_readFloating_97 := rfl
theorem bqX5_readFloating_103 : aLook bkX5_readFloating 103 = some blX5_readFloating_103 := rfl
theorem bqX5_readFloating_107 : aLook bkX5_readFloating 107 = some blX5_readFloating_107 := rfl
theorem bqX5_readFloating_108 : aLook bkX5_readFloating 108 = some blX5_readFloating_108 := rfl
theorem bqX5_readFloating_131 : aLook bkX5_readFloating 131 = some blX5_readFloating_131 := rfl
theorem bqX5_readFloating_141 : aLook bkX5_readFloating 141 = some blX5_readFloating_141 := rfl
theorem bqX5_readFloating_144 : aLook bkX5_readFloating 144 = some blX5_readFloating_144 := rfl
theorem bqX5_readFloating_155 : aLook bkX5_readFloating 155 = some blX5_readFloating_155 := rfl
theorem bqX5_readFloating_158 : aLook bkX5_readFloating 158 = some blX5_readFloating_158 := rfl
theorem boX5_readFloating : ∀ pc is, aLook bkX5_readFloating pc = some is → aBlk RX5 cX5_readFloating 7 false pc is := aBks_ok (lk := lkX5) lkX5_ok (by decide +kernel)
def blX5_belowTenTo_0 : List aIn := [(.aload_n 0, 0, 0, 0, []), (.getfield 12, 6, 0, 2, []), (.lconst 1, 1, 0, 0, []), (.invokevirtual 27, 2, 0, 0, [])]
def blX5_belowTenTo_8 : List aIn := [(.aload_n 0, 0, 0, 0, []), (.getfield 12, 6, 0, 2, []), (.iload_n 1, 1, 0, 0, []), (.invokevirtual 48, 2, 0, 0, [])]
def blX5_belowTenTo_16 : List aIn := [(.aload_n 2, 2, 0, 0, []), (.aload_n 0, 0, 0, 0, []), (.getfield 12, 6, 0, 2, []), (.invokevirtual 151, 2, 0, 0, [])]
def blX5_belowTenTo_24 : List aIn := [(.ifCond .ge 7, 31, 0, 0, [])]
def blX5_belowTenTo_27 : List aIn := [(.iconst 1, 1, 0, 0, []), (.goto 4, 32, 0, 0, [])]
def blX5_belowTenTo_31 : List aIn := [(.iconst 0, 0, 0, 0, [])]
def blX5_belowTenTo_32 : List aIn := [(.ireturn, 0, 0, 0, [])]
def bkX5_belowTenTo : List (Nat × List aIn) := [(0, blX5_belowTenTo_0), (8, blX5_belowTenTo_8), (16, blX5_belowTenTo_16), (24, blX5_belowTenTo_24), (27, blX5_belowTenTo_27), (31, blX5_belowTenTo_31), (32, blX5_belowTenTo_32)]
theorem bqX5_belowTenTo_0 : aLook bkX5_belowTenTo 0 = some blX5_belowTenTo_0 := rfl
theorem bqX5_belowTenTo_8 : aLook bkX5_belowTenTo 8 = some blX5_belowTenTo_8 := rfl
theorem bqX5_belowTenTo_16 : aLook bkX5_belowTenTo 16 = some blX5_belowTenTo_16 := rfl
theorem bqX5_belowTenTo_24 : aLook bkX5_belowTenTo 24 = some blX5_belowTenTo_24 := rfl
theorem bqX5_belowTenTo_27 : aLook bkX5_belowTenTo 27 = some blX5_belowTenTo_27 := rfl
theorem bqX5_belowTenTo_31 : aLook bkX5_belowTenTo 31 = some blX5_belowTenTo_31 := rfl
theorem bqX5_belowTenTo_32 : aLook bkX5_belowTenTo 32 = some blX5_belowTenTo_32 := rfl
theorem boX5_belowTenTo : ∀ pc is, aLook bkX5_belowTenTo pc = some is → aBlk RX5 cX5_belowTenTo 3 false pc is := aBks_ok (lk := lkX5) lkX5_ok (by decide +kernel)
def blX5_appendDigit_0 : List aIn := [(.iload_n 0, 0, 0, 0, []), (.bipush 9, 9, 0, 0, []), (.if_icmp .le 5, 8, 0, 0, [])]
def blX5_appendDigit_6 : List aIn := [(.iconst 0, 0, 0, 0, []), (.ireturn, 0, 0, 0, [])]
def blX5_appendDigit_8 : List aIn := [(.aload_n 1, 1, 0, 0, []), (.getfield 24, 3, 1, 2, []), (.bipush 10, 10, 0, 0, []), (.iload_n 0, 0, 0, 0, []), (.invokevirtual 122, 3, 0, 0, [])]
def blX5_appendDigit_18 : List aIn := [(.iconst 1, 1, 0, 0, []), (.ireturn, 0, 0, 0, [])]
def bkX5_appendDigit : List (Nat × List aIn) := [(0, blX5_appendDigit_0), (6, blX5_appendDigit_6), (8, blX5_appendDigit_8), (18, blX5_appendDigit_18)]
theorem bqX5_appendDigit_0 : aLook bkX5_appendDigit 0 = some blX5_appendDigit_0 := rfl
theorem bqX5_appendDigit_6 : aLook bkX5_appendDigit 6 = some blX5_appendDigit_6 := rfl
theorem bqX5_appendDigit_8 : aLook bkX5_appendDigit 8 = some blX5_appendDigit_8 := rfl
theorem bqX5_appendDigit_18 : aLook bkX5_appendDigit 18 = some blX5_appendDigit_18 := rfl
theorem boX5_appendDigit : ∀ pc is, aLook bkX5_appendDigit pc = some is → aBlk RX5 cX5_appendDigit 2 false pc is := aBks_ok (lk := lkX5) lkX5_ok (by decide +kernel)
def blX5_takeSign_0 : List aIn := [(.aload_n 1, 1, 0, 0, []), (.iload_n 0, 0, 0, 0, []), (.iconst (-1), 1, 1, 0, []), (.if_icmp .ne 7, 10, 0, 0, [])]
def blX5_takeSign_6 : List aIn := [(.iconst 1, 1, 0, 0, []), (.goto 4, 11, 0, 0, [])]
def blX5_takeSign_10 : List aIn := [(.iconst 0, 0, 0, 0, [])]
def blX5_takeSign_11 : List aIn := [(.putfield 18, 3, 0, 1, []), (.iload_n 0, 0, 0, 0, []), (.ifCond .eq 7, 22, 0, 0, [])]
def blX5_takeSign_18 : List aIn := [(.iconst 1, 1, 0, 0, []), (.goto 4, 23, 0, 0, [])]
def blX5_takeSign_22 : List aIn := [(.iconst 0, 0, 0, 0, [])]
def blX5_takeSign_23 : List aIn := [(.ireturn, 0, 0, 0, [])]
def bkX5_takeSign : List (Nat × List aIn) := [(0, blX5_takeSign_0), (6, blX5_takeSign_6), (10, blX5_takeSign_10), (11, blX5_takeSign_11), (18, blX5_takeSign_18), (22, blX5_takeSign_22), (23, blX5_takeSign_23)]
theorem bqX5_takeSign_0 : aLook bkX5_takeSign 0 = some blX5_takeSign_0 := rfl
theorem bqX5_takeSign_6 : aLook bkX5_takeSign 6 = some blX5_takeSign_6 := rfl
theorem bqX5_takeSign_10 : aLook bkX5_takeSign 10 = some blX5_takeSign_10 := rfl
theorem bqX5_takeSign_11 : aLook bkX5_takeSign 11 = some blX5_takeSign_11 := rfl
theorem bqX5_takeSign_18 : aLook bkX5_takeSign 18 = some blX5_takeSign_18 := rfl
theorem bqX5_takeSign_22 : aLook bkX5_takeSign 22 = some blX5_takeSign_22 := rfl
theorem bqX5_takeSign_23 : aLook bkX5_takeSign 23 = some blX5_takeSign_23 := rfl
theorem boX5_takeSign : ∀ pc is, aLook bkX5_takeSign pc = some is → aBlk RX5 cX5_takeSign 2 false pc is := aBks_ok (lk := lkX5) lkX5_ok (by decide +kernel)
def blX5_signOfNibble_0 : List aIn := [(.iload_n 0, 0, 0, 0, []), (.bipush 10, 10, 0, 0, []), (.if_icmp .ge 5, 8, 0, 0, [])]
def blX5_signOfNibble_6 : List aIn := [(.iconst 0, 0, 0, 0, []), (.ireturn, 0, 0, 0, [])]
def blX5_signOfNibble_8 : List aIn := [(.iload_n 0, 0, 0, 0, []), (.bipush 11, 11, 0, 0, []), (.if_icmp .eq 9, 20, 0, 0, [])]
def blX5_signOfNibble_14 : List aIn := [(.iload_n 0, 0, 0, 0, []), (.bipush 13, 13, 0, 0, []), (.if_icmp .ne 7, 24, 0, 0, [])]
def blX5_signOfNibble_20 : List aIn := [(.iconst (-1), 1, 1, 0, []), (.goto 4, 25, 0, 0, [])]
def blX5_signOfNibble_24 : List aIn := [(.iconst 1, 1, 0, 0, [])]
def blX5_signOfNibble_25 : List aIn := [(.ireturn, 0, 0, 0, [])]
def bkX5_signOfNibble : List (Nat × List aIn) := [(0, blX5_signOfNibble_0), (6, blX5_signOfNibble_6), (8, blX5_signOfNibble_8), (14, blX5_signOfNibble_14), (20, blX5_signOfNibble_20), (24, blX5_signOfNibble_24), (25, blX5_signOfNibble_25)]
theorem bqX5_signOfNibble_0 : aLook bkX5_signOfNibble 0 = some blX5_signOfNibble_0 := rfl
theorem bqX5_signOfNibble_6 : aLook bkX5_signOfNibble 6 = some blX5_signOfNibble_6 := rfl
theorem bqX5_signOfNibble_8 : aLook bkX5_signOfNibble 8 = some blX5_signOfNibble_8 := rfl
theorem bqX5_signOfNibble_14 : aLook bkX5_signOfNibble 14 = some blX5_signOfNibble_14 := rfl
theorem bqX5_signOfNibble_20 : aLook bkX5_signOfNibble 20 = some blX5_signOfNibble_20 := rfl
theorem bqX5_signOfNibble_24 : aLook bkX5_signOfNibble 24 = some blX5_signOfNibble_24 := rfl
theorem bqX5_signOfNibble_25 : aLook bkX5_signOfNibble 25 = some blX5_signOfNibble_25 := rfl
theorem boX5_signOfNibble : ∀ pc is, aLook bkX5_signOfNibble pc = some is → aBlk RX5 cX5_signOfNibble 1 false pc is := aBks_ok (lk := lkX5) lkX5_ok (by decide +kernel)
def blX5_signOfByte_0 : List aIn := [(.iload_n 0, 0, 0, 0, []), (.iload_n 1, 1, 0, 0, []), (.if_icmp .ne 7, 9, 0, 0, [])]
def blX5_signOfByte_5 : List aIn := [(.iconst 1, 1, 0, 0, []), (.goto 13, 19, 0, 0, [])]
def blX5_signOfByte_9 : List aIn := [(.iload_n 0, 0, 0, 0, []), (.iload_n 2, 2, 0, 0, []), (.if_icmp .ne 7, 18, 0, 0, [])]
def blX5_signOfByte_14 : List aIn := [(.iconst (-1), 1, 1, 0, []), (.goto 4, 19, 0, 0, [])]
def blX5_signOfByte_18 : List aIn := [(.iconst 0, 0, 0, 0, [])]
def blX5_signOfByte_19 : List aIn := [(.ireturn, 0, 0, 0, [])]
def bkX5_signOfByte : List (Nat × List aIn) := [(0, blX5_signOfByte_0), (5, blX5_signOfByte_5), (9, blX5_signOfByte_9), (14, blX5_signOfByte_14), (18, blX5_signOfByte_18), (19, blX5_signOfByte_19)]
theorem bqX5_signOfByte_0 : aLook bkX5_signOfByte 0 = some blX5_signOfByte_0 := rfl
theorem bqX5_signOfByte_5 : aLook bkX5_signOfByte 5 = some blX5_signOfByte_5 := rfl
theorem bqX5_signOfByte_9 : aLook bkX5_signOfByte 9 = some blX5_signOfByte_9 := rfl
theorem bqX5_signOfByte_14 : aLook bkX5_signOfByte 14 = some blX5_signOfByte_14 := rfl
theorem bqX5_signOfByte_18 : aLook bkX5_signOfByte 18 = some blX5_signOfByte_18 := rfl
theorem bqX5_signOfByte_19 : aLook bkX5_signOfByte 19 = some blX5_signOfByte_19 := rfl
theorem boX5_signOfByte : ∀ pc is, aLook bkX5_signOfByte pc = some is → aBlk RX5 cX5_signOfByte 3 false pc is := aBks_ok (lk := lkX5) lkX5_ok (by decide +kernel)
