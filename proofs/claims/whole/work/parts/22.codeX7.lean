/-! code of PackedDecimals$Writer (printed by gen.py) -/
def blX7_init_0 : List aIn := [(.aload_n 0, 0, 0, 0, []), (.invokespecial 3, 1, 0, 0, [])]
def blX7_init_4 : List aIn := [(.return_, 0, 0, 0, [])]
def bkX7_init : List (Nat × List aIn) := [(0, blX7_init_0), (4, blX7_init_4)]
theorem bqX7_init_0 : aLook bkX7_init 0 = some blX7_init_0 := rfl
theorem bqX7_init_4 : aLook bkX7_init 4 = some blX7_init_4 := rfl
theorem boX7_init : ∀ pc is, aLook bkX7_init pc = some is → aBlk RX7 cX7_init 1 true pc is := aBks_ok (lk := []) (fun _ h => absurd h List.not_mem_nil) (by decide +kernel)
def blX7_write_0 : List aIn := [(.aload_n 1, 1, 0, 0, []), (.getfield 9, 5, 0, 0, []), (.tableswitch 74 5 11 #[44, 44, 54, 54, 74, 74, 64], 5, 78, 0, [48, 48, 58, 58, 78, 78, 68])]
def blX7_write_48 : List aIn := [(.aload_n 0, 0, 0, 0, []), (.aload_n 1, 1, 0, 0, []), (.aload_n 2, 2, 0, 0, []), (.iload_n 3, 3, 0, 0, []), (.invokevirtual 15, 4, 0, 0, [])]
def blX7_write_55 : List aIn := [(.goto 30, 85, 0, 0, [])]
def blX7_write_58 : List aIn := [(.aload_n 0, 0, 0, 0, []), (.aload_n 1, 1, 0, 0, []), (.aload_n 2, 2, 0, 0, []), (.iload_n 3, 3, 0, 0, []), (.invokevirtual 21, 4, 0, 0, [])]
def blX7_write_65 : List aIn := [(.goto 20, 85, 0, 0, [])]
def blX7_write_68 : List aIn := [(.aload_n 0, 0, 0, 0, []), (.aload_n 1, 1, 0, 0, []), (.aload_n 2, 2, 0, 0, []), (.iload_n 3, 3, 0, 0, []), (.invokevirtual 24, 4, 0, 0, [])]
def blX7_write_75 : List aIn := [(.goto 10, 85, 0, 0, [])]
def blX7_write_78 : List aIn := [(.aload_n 0, 0, 0, 0, []), (.aload_n 1, 1, 0, 0, []), (.aload_n 2, 2, 0, 0, []), (.iload_n 3, 3, 0, 0, []), (.invokevirtual 27, 4, 0, 0, [])]
def blX7_write_85 : List aIn := [(.return_, 0, 0, 0, [])]
def bkX7_write : List (Nat × List aIn) := [(0, blX7_write_0), (48, blX7_write_48), (55, blX7_write_55), (58, blX7_write_58), (65, blX7_write_65), (68, blX7_write_68), (75, blX7_write_75), (78, blX7_write_78), (85, blX7_write_85)]
theorem bqX7_write_0 : aLook bkX7_write 0 = some blX7_write_0 := rfl
theorem bqX7_write_48 : aLook bkX7_write 48 = some blX7_write_48 := rfl
theorem bqX7_write_55 : aLook bkX7_write 55 = some blX7_write_55 := rfl
theorem bqX7_write_58 : aLook bkX7_write 58 = some blX7_write_58 := rfl
theorem bqX7_write_65 : aLook bkX7_write 65 = some blX7_write_65 := rfl
theorem bqX7_write_68 : aLook bkX7_write 68 = some blX7_write_68 := rfl
theorem bqX7_write_75 : aLook bkX7_write 75 = some blX7_write_75 := rfl
theorem bqX7_write_78 : aLook bkX7_write 78 = some blX7_write_78 := rfl
theorem bqX7_write_85 : aLook bkX7_write 85 = some blX7_write_85 := rfl
theorem boX7_write : ∀ pc is, aLook bkX7_write pc = some is → aBlk RX7 cX7_write 4 false pc is := aBks_ok (lk := lkX7) lkX7_ok (by decide +kernel)
def blX7_writeZoned_0 : List aIn := [(.aload_n 1, 1, 0, 0, []), (.invokevirtual 30, 1, 0, 0, [])]
def blX7_writeZoned_4 : List aIn := [(.istore 4, 4, 0, 0, []), (.aload_n 1, 1, 0, 0, []), (.invokevirtual 34, 1, 0, 0, [])]
def blX7_writeZoned_10 : List aIn := [(.istore 5, 5, 0, 0, []), (.aload_n 1, 1, 0, 0, []), (.getfield 37, 5, 1, 0, []), (.iconst 1, 1, 0, 0, []), (.isub, 0, 0, 0, []), (.istore 6, 6, 0, 0, [])]
def blX7_writeZoned_20 : List aIn := [(.iload 6, 6, 0, 0, []), (.ifCond .lt 45, 67, 0, 0, [])]
def blX7_writeZoned_25 : List aIn := [(.iload 6, 6, 0, 0, []), (.iload 5, 5, 0, 0, []), (.if_icmp .ne 10, 39, 0, 0, [])]
def blX7_writeZoned_32 : List aIn := [(.iload_n 3, 3, 0, 0, []), (.invokestatic 40, 1, 0, 0, [])]
def blX7_writeZoned_36 : List aIn := [(.goto 5, 41, 0, 0, [])]
def blX7_writeZoned_39 : List aIn := [(.bipush 15, 15, 0, 0, [])]
def blX7_writeZoned_41 : List aIn := [(.istore 7, 7, 0, 0, []), (.aload_n 1, 1, 0, 0, []), (.iload 4, 4, 0, 0, []), (.iload 6, 6, 0, 0, []), (.iadd, 0, 0, 0, []), (.iload 7, 7, 0, 0, []), (.iconst 4, 4, 0, 0, []), (.ishl, 0, 0, 0, []), (.aload_n 2, 2, 0, 0, []), (.invokevirtual 44, 1, 0, 0, [])]
def blX7_writeZoned_57 : List aIn := [(.ior, 0, 0, 0, []), (.invokevirtual 49, 3, 0, 0, [])]
def blX7_writeZoned_61 : List aIn := [(.iinc 6 (-1), 6, 0, 0, []), (.goto (-44), 20, 0, 0, [])]
def blX7_writeZoned_67 : List aIn := [(.aload_n 1, 1, 0, 0, []), (.invokevirtual 53, 1, 0, 0, [])]
def blX7_writeZoned_71 : List aIn := [(.istore 6, 6, 0, 0, []), (.iload 6, 6, 0, 0, []), (.iconst (-1), 1, 1, 0, []), (.if_icmp .eq 20, 96, 0, 0, [])]
def blX7_writeZoned_79 : List aIn := [(.aload_n 1, 1, 0, 0, []), (.iload 6, 6, 0, 0, []), (.iload_n 3, 3, 0, 0, []), (.ifCond .eq 8, 91, 0, 0, [])]
def blX7_writeZoned_86 : List aIn := [(.bipush 96, 96, 0, 0, []), (.goto 5, 93, 0, 0, [])]
def blX7_writeZoned_91 : List aIn := [(.bipush 78, 78, 0, 0, [])]
def blX7_writeZoned_93 : List aIn := [(.invokevirtual 49, 3, 0, 0, [])]
def blX7_writeZoned_96 : List aIn := [(.return_, 0, 0, 0, [])]
def bkX7_writeZoned : List (Nat × List aIn) := [(0, blX7_writeZoned_0), (4, blX7_writeZoned_4), (10, blX7_writeZoned_10), (20, blX7_writeZoned_20), (25, blX7_writeZoned_25), (32, blX7_writeZoned_32), (36, blX7_writeZoned_36), (39, blX7_writeZoned_39), (41, blX7_writeZoned_41), (57, blX7_writeZoned_57), (61, blX7_writeZoned_61), (67, blX7_writeZoned_67), (71, blX7_writeZoned_71), (79, blX7_writeZoned_79), (86, blX7_writeZoned_86), (91, blX7_writeZoned_91), (93, blX7_writeZoned_93), (96, blX7_writeZoned_96)]
theorem bqX7_writeZoned_0 : aLook bkX7_writeZoned 0 = some blX7_writeZoned_0 := rfl
theorem bqX7_writeZoned_4 : aLook bkX7_writeZoned 4 = some blX7_writeZoned_4 := rfl
theorem bqX7_writeZoned_10 : aLook bkX7_writeZoned 10 = some blX7_writeZoned_10 := rfl
theorem bqX7_writeZoned_20 : aLook bkX7_writeZoned 20 = some blX7_writeZoned_20 := rfl
theorem bqX7_writeZoned_25 : aLook bkX7_writeZoned 25 = some blX7_writeZoned_25 := rfl
theorem bqX7_writeZoned_32 : aLook bkX7_writeZoned 32 = some blX7_writeZoned_32 := rfl
theorem bqX7_writeZoned_36 : aLook bkX7_writeZoned 36 = some blX7_writeZoned_36 := rfl
theorem bqX7_writeZoned_39 : aLook bkX7_writeZoned 39 = some blX7_writeZoned_39 := rfl
theorem bqX7_writeZoned_41 : aLook bkX7_writeZoned 41 = some blX7_writeZoned_41 := rfl
theorem bqX7_writeZoned_57 : aLook bkX7_writeZoned 57 = some blX7_writeZoned_57 := rfl
theorem bqX7_writeZoned_61 : aLook bkX7_writeZoned 61 = some blX7_writeZoned_61 := rfl
theorem bqX7_writeZoned_67 : aLook bkX7_writeZoned 67 = some blX7_writeZoned_67 := rfl
theorem bqX7_writeZoned_71 : aLook bkX7_writeZoned 71 = some blX7_writeZoned_71 := rfl
theorem bqX7_writeZoned_79 : aLook bkX7_writeZoned 79 = some blX7_writeZoned_79 := rfl
theorem bqX7_writeZoned_86 : aLook bkX7_writeZoned 86 = some blX7_writeZoned_86 := rfl
theorem bqX7_writeZoned_91 : aLook bkX7_writeZoned 91 = some blX7_writeZoned_91 := rfl
theorem bqX7_writeZoned_93 : aLook bkX7_writeZoned 93 = some blX7_writeZoned_93 := rfl
theorem bqX7_writeZoned_96 : aLook bkX7_writeZoned 96 = some blX7_writeZoned_96 := rfl
theorem boX7_writeZoned : ∀ pc is, aLook bkX7_writeZoned pc = some is → aBlk RX7 cX7_writeZoned 8 false pc is := aBks_ok (lk := lkX7) lkX7_ok (by decide +kernel)
def blX7_writePacked_0 : List aIn := [(.aload_n 1, 1, 0, 0, []), (.invokevirtual 56, 1, 0, 0, [])]
def blX7_writePacked_4 : List aIn := [(.istore 4, 4, 0, 0, []), (.iload 4, 4, 0, 0, []), (.iconst 1, 1, 0, 0, []), (.if_icmp .ne 9, 18, 0, 0, [])]
def blX7_writePacked_12 : List aIn := [(.aload_n 1, 1, 0, 0, []), (.iconst 0, 0, 0, 0, []), (.iconst 0, 0, 0, 0, []), (.invokevirtual 59, 3, 0, 0, [])]
def blX7_writePacked_18 : List aIn := [(.aload_n 1, 1, 0, 0, []), (.getfield 37, 5, 1, 0, []), (.iconst 1, 1, 0, 0, []), (.isub, 0, 0, 0, []), (.istore 5, 5, 0, 0, [])]
def blX7_writePacked_26 : List aIn := [(.iload 5, 5, 0, 0, []), (.ifCond .lt 22, 50, 0, 0, [])]
def blX7_writePacked_31 : List aIn := [(.aload_n 1, 1, 0, 0, []), (.iload 4, 4, 0, 0, []), (.iload 5, 5, 0, 0, []), (.iadd, 0, 0, 0, []), (.aload_n 2, 2, 0, 0, []), (.invokevirtual 44, 1, 0, 0, [])]
def blX7_writePacked_41 : List aIn := [(.invokevirtual 59, 3, 0, 0, [])]
def blX7_writePacked_44 : List aIn := [(.iinc 5 (-1), 5, 0, 0, []), (.goto (-21), 26, 0, 0, [])]
def blX7_writePacked_50 : List aIn := [(.aload_n 1, 1, 0, 0, []), (.iload 4, 4, 0, 0, []), (.aload_n 1, 1, 0, 0, []), (.getfield 37, 5, 1, 0, []), (.iadd, 0, 0, 0, []), (.aload_n 1, 1, 0, 0, []), (.invokevirtual 62, 1, 0, 0, [])]
def blX7_writePacked_62 : List aIn := [(.ifCond .eq 8, 70, 0, 0, [])]
def blX7_writePacked_65 : List aIn := [(.bipush 15, 15, 0, 0, []), (.goto 7, 74, 0, 0, [])]
def blX7_writePacked_70 : List aIn := [(.iload_n 3, 3, 0, 0, []), (.invokestatic 40, 1, 0, 0, [])]
def blX7_writePacked_74 : List aIn := [(.invokevirtual 59, 3, 0, 0, [])]
def blX7_writePacked_77 : List aIn := [(.return_, 0, 0, 0, [])]
def bkX7_writePacked : List (Nat × List aIn) := [(0, blX7_writePacked_0), (4, blX7_writePacked_4), (12, blX7_writePacked_12), (18, blX7_writePacked_18), (26, blX7_writePacked_26), (31, blX7_writePacked_31), (41, blX7_writePacked_41), (44, blX7_writePacked_44), (50, blX7_writePacked_50), (62, blX7_writePacked_62), (65, blX7_writePacked_65), (70, blX7_writePacked_70), (74, blX7_writePacked_74), (77, blX7_writePacked_77)]
theorem bqX7_writePacked_0 : aLook bkX7_writePacked 0 = some blX7_writePacked_0 := rfl
theorem bqX7_writePacked_4 : aLook bkX7_writePacked 4 = some blX7_writePacked_4 := rfl
theorem bqX7_writePacked_12 : aLook bkX7_writePacked 12 = some blX7_writePacked_12 := rfl
theorem bqX7_writePacked_18 : aLook bkX7_writePacked 18 = some blX7_writePacked_18 := rfl
theorem bqX7_writePacked_26 : aLook bkX7_writePacked 26 = some blX7_writePacked_26 := rfl
theorem bqX7_writePacked_31 : aLook bkX7_writePacked 31 = some blX7_writePacked_31 := rfl
theorem bqX7_writePacked_41 : aLook bkX7_writePacked 41 = some blX7_writePacked_41 := rfl
theorem bqX7_writePacked_44 : aLook bkX7_writePacked 44 = some blX7_writePacked_44 := rfl
theorem bqX7_writePacked_50 : aLook bkX7_writePacked 50 = some blX7_writePacked_50 := rfl
theorem bqX7_writePacked_62 : aLook bkX7_writePacked 62 = some blX7_writePacked_62 := rfl
theorem bqX7_writePacked_65 : aLook bkX7_writePacked 65 = some blX7_writePacked_65 := rfl
theorem bqX7_writePacked_70 : aLook bkX7_writePacked 70 = some blX7_writePacked_70 := rfl
theorem bqX7_writePacked_74 : aLook bkX7_writePacked 74 = some blX7_writePacked_74 := rfl
theorem bqX7_writePacked_77 : aLook bkX7_writePacked 77 = some blX7_writePacked_77 := rfl
theorem boX7_writePacked : ∀ pc is, aLook bkX7_writePacked pc = some is → aBlk RX7 cX7_writePacked 6 false pc is := aBks_ok (lk := lkX7) lkX7_ok (by decide +kernel)
def blX7_writeNational_0 : List aIn := [(.aload_n 1, 1, 0, 0, []), (.getfield 37, 5, 1, 0, []), (.iconst 1, 1, 0, 0, []), (.isub, 0, 0, 0, []), (.istore 4, 4, 0, 0, [])]
def blX7_writeNational_8 : List aIn := [(.iload 4, 4, 0, 0, []), (.ifCond .lt 35, 45, 0, 0, [])]
def blX7_writeNational_13 : List aIn := [(.aload_n 1, 1, 0, 0, []), (.iconst 2, 2, 0, 0, []), (.iload 4, 4, 0, 0, []), (.imul, 0, 0, 0, []), (.iconst 0, 0, 0, 0, []), (.invokevirtual 49, 3, 0, 0, [])]
def blX7_writeNational_22 : List aIn := [(.aload_n 1, 1, 0, 0, []), (.iconst 2, 2, 0, 0, []), (.iload 4, 4, 0, 0, []), (.imul, 0, 0, 0, []), (.iconst 1, 1, 0, 0, []), (.iadd, 0, 0, 0, []), (.bipush 48, 48, 0, 0, []), (.aload_n 2, 2, 0, 0, []), (.invokevirtual 44, 1, 0, 0, [])]
def blX7_writeNational_35 : List aIn := [(.ior, 0, 0, 0, []), (.invokevirtual 49, 3, 0, 0, [])]
def blX7_writeNational_39 : List aIn := [(.iinc 4 (-1), 4, 0, 0, []), (.goto (-34), 8, 0, 0, [])]
def blX7_writeNational_45 : List aIn := [(.aload_n 1, 1, 0, 0, []), (.iconst 2, 2, 0, 0, []), (.aload_n 1, 1, 0, 0, []), (.getfield 37, 5, 1, 0, []), (.imul, 0, 0, 0, []), (.iconst 0, 0, 0, 0, []), (.invokevirtual 49, 3, 0, 0, [])]
def blX7_writeNational_56 : List aIn := [(.aload_n 1, 1, 0, 0, []), (.iconst 2, 2, 0, 0, []), (.aload_n 1, 1, 0, 0, []), (.getfield 37, 5, 1, 0, []), (.imul, 0, 0, 0, []), (.iconst 1, 1, 0, 0, []), (.iadd, 0, 0, 0, []), (.iload_n 3, 3, 0, 0, []), (.ifCond .eq 8, 74, 0, 0, [])]
def blX7_writeNational_69 : List aIn := [(.bipush 45, 45, 0, 0, []), (.goto 5, 76, 0, 0, [])]
def blX7_writeNational_74 : List aIn := [(.bipush 43, 43, 0, 0, [])]
def blX7_writeNational_76 : List aIn := [(.invokevirtual 49, 3, 0, 0, [])]
def blX7_writeNational_79 : List aIn := [(.return_, 0, 0, 0, [])]
def bkX7_writeNational : List (Nat × List aIn) := [(0, blX7_writeNational_0), (8, blX7_writeNational_8), (13, blX7_writeNational_13), (22, blX7_writeNational_22), (35, blX7_writeNational_35), (39, blX7_writeNational_39), (45, blX7_writeNational_45), (56, blX7_writeNational_56), (69, blX7_writeNational_69), (74, blX7_writeNational_74), (76, blX7_writeNational_76), (79, blX7_writeNational_79)]
theorem bqX7_writeNational_0 : aLook bkX7_writeNational 0 = some blX7_writeNational_0 := rfl
theorem bqX7_writeNational_8 : aLook bkX7_writeNational 8 = some blX7_writeNational_8 := rfl
theorem bqX7_writeNational_13 : aLook bkX7_writeNational 13 = some blX7_writeNational_13 := rfl
theorem bqX7_writeNational_22 : aLook bkX7_writeNational 22 = some blX7_writeNational_22 := rfl
theorem bqX7_writeNational_35 : aLook bkX7_writeNational 35 = some blX7_writeNational_35 := rfl
theorem bqX7_writeNational_39 : aLook bkX7_writeNational 39 = some blX7_writeNational_39 := rfl
theorem bqX7_writeNational_45 : aLook bkX7_writeNational 45 = some blX7_writeNational_45 := rfl
theorem bqX7_writeNational_56 : aLook bkX7_writeNational 56 = some blX7_writeNational_56 := rfl
theorem bqX7_writeNational_69 : aLook bkX7_writeNational 69 = some blX7_writeNational_69 := rfl
theorem bqX7_writeNational_74 : aLook bkX7_writeNational 74 = some blX7_writeNational_74 := rfl
theorem bqX7_writeNational_76 : aLook bkX7_writeNational 76 = some blX7_writeNational_76 := rfl
theorem bqX7_writeNational_79 : aLook bkX7_writeNational 79 = some blX7_writeNational_79 := rfl
theorem boX7_writeNational : ∀ pc is, aLook bkX7_writeNational pc = some is → aBlk RX7 cX7_writeNational 5 false pc is := aBks_ok (lk := lkX7) lkX7_ok (by decide +kernel)
def blX7_writeBinary_0 : List aIn := [(.iconst 1, 1, 0, 0, []), (.istore 4, 4, 0, 0, []), (.aload_n 1, 1, 0, 0, []), (.getfield 66, 5, 3, 2, []), (.arraylength, 0, 0, 0, []), (.iconst 1, 1, 0, 0, []), (.isub, 0, 0, 0, []), (.istore 5, 5, 0, 0, [])]
def blX7_writeBinary_12 : List aIn := [(.iload 5, 5, 0, 0, []), (.ifCond .lt 45, 59, 0, 0, [])]
def blX7_writeBinary_17 : List aIn := [(.aload_n 2, 2, 0, 0, []), (.invokevirtual 70, 1, 0, 0, [])]
def blX7_writeBinary_21 : List aIn := [(.istore 6, 6, 0, 0, []), (.iload_n 3, 3, 0, 0, []), (.ifCond .eq 21, 45, 0, 0, [])]
def blX7_writeBinary_27 : List aIn := [(.sipush 255, 255, 0, 0, []), (.iload 6, 6, 0, 0, []), (.isub, 0, 0, 0, []), (.iload 4, 4, 0, 0, []), (.iadd, 0, 0, 0, []), (.istore 6, 6, 0, 0, []), (.iload 6, 6, 0, 0, []), (.bipush 8, 8, 0, 0, []), (.ishr, 0, 0, 0, []), (.istore 4, 4, 0, 0, [])]
def blX7_writeBinary_45 : List aIn := [(.aload_n 1, 1, 0, 0, []), (.iload 5, 5, 0, 0, []), (.iload 6, 6, 0, 0, []), (.invokevirtual 49, 3, 0, 0, [])]
def blX7_writeBinary_53 : List aIn := [(.iinc 5 (-1), 5, 0, 0, []), (.goto (-44), 12, 0, 0, [])]
def blX7_writeBinary_59 : List aIn := [(.return_, 0, 0, 0, [])]
def bkX7_writeBinary : List (Nat × List aIn) := [(0, blX7_writeBinary_0), (12, blX7_writeBinary_12), (17, blX7_writeBinary_17), (21, blX7_writeBinary_21), (27, blX7_writeBinary_27), (45, blX7_writeBinary_45), (53, blX7_writeBinary_53), (59, blX7_writeBinary_59)]
theorem bqX7_writeBinary_0 : aLook bkX7_writeBinary 0 = some blX7_writeBinary_0 := rfl
theorem bqX7_writeBinary_12 : aLook bkX7_writeBinary 12 = some blX7_writeBinary_12 := rfl
theorem bqX7_writeBinary_17 : aLook bkX7_writeBinary 17 = some blX7_writeBinary_17 := rfl
theorem bqX7_writeBinary_21 : aLook bkX7_writeBinary 21 = some blX7_writeBinary_21 := rfl
theorem bqX7_writeBinary_27 : aLook bkX7_writeBinary 27 = some blX7_writeBinary_27 := rfl
theorem bqX7_writeBinary_45 : aLook bkX7_writeBinary 45 = some blX7_writeBinary_45 := rfl
theorem bqX7_writeBinary_53 : aLook bkX7_writeBinary 53 = some blX7_writeBinary_53 := rfl
theorem bqX7_writeBinary_59 : aLook bkX7_writeBinary 59 = some blX7_writeBinary_59 := rfl
theorem boX7_writeBinary : ∀ pc is, aLook bkX7_writeBinary pc = some is → aBlk RX7 cX7_writeBinary 7 false pc is := aBks_ok (lk := lkX7) lkX7_ok (by decide +kernel)
def blX7_writeFloating_0 : List aIn := [(.lload_n 2, 2, 0, 0, []), (.lstore 5, 5, 0, 0, []), (.aload_n 1, 1, 0, 0, []), (.getfield 66, 5, 3, 2, []), (.arraylength, 0, 0, 0, []), (.iconst 1, 1, 0, 0, []), (.isub, 0, 0, 0, []), (.istore 7, 7, 0, 0, [])]
def blX7_writeFloating_12 : List aIn := [(.iload 7, 7, 0, 0, []), (.ifCond .lt 29, 43, 0, 0, [])]
def blX7_writeFloating_17 : List aIn := [(.aload_n 1, 1, 0, 0, []), (.iload 7, 7, 0, 0, []), (.lload 5, 5, 0, 0, []), (.ldc2_w 73, 255, 0, 0, []), (.land, 0, 0, 0, []), (.l2i, 0, 0, 0, []), (.invokevirtual 49, 3, 0, 0, [])]
def blX7_writeFloating_30 : List aIn := [(.lload 5, 5, 0, 0, []), (.bipush 8, 8, 0, 0, []), (.lshr, 0, 0, 0, []), (.lstore 5, 5, 0, 0, []), (.iinc 7 (-1), 7, 0, 0, []), (.goto (-28), 12, 0, 0, [])]
def blX7_writeFloating_43 : List aIn := [(.iload 4, 4, 0, 0, []), (.ifCond .eq 17, 62, 0, 0, [])]
def blX7_writeFloating_48 : List aIn := [(.aload_n 1, 1, 0, 0, []), (.iconst 0, 0, 0, 0, []), (.aload_n 1, 1, 0, 0, []), (.iconst 0, 0, 0, 0, []), (.invokevirtual 75, 2, 0, 0, [])]
def blX7_writeFloating_55 : List aIn := [(.sipush 128, 128, 0, 0, []), (.ior, 0, 0, 0, []), (.invokevirtual 49, 3, 0, 0, [])]
def blX7_writeFloating_62 : List aIn := [(.return_, 0, 0, 0, [])]
def bkX7_writeFloating : List (Nat × List aIn) := [(0, blX7_writeFloating_0), (12, blX7_writeFloating_12), (17, blX7_writeFloating_17), (30, blX7_writeFloating_30), (43, blX7_writeFloating_43), (48, blX7_writeFloating_48), (55, blX7_writeFloating_55), (62, blX7_writeFloating_62)]
theorem bqX7_writeFloating_0 : aLook bkX7_writeFloating 0 = some blX7_writeFloating_0 := rfl
theorem bqX7_writeFloating_12 : aLook bkX7_writeFloating 12 = some blX7_writeFloating_12 := rfl
theorem bqX7_writeFloating_17 : aLook bkX7_writeFloating 17 = some blX7_writeFloating_17 := rfl
theorem bqX7_writeFloating_30 : aLook bkX7_writeFloating 30 = some blX7_writeFloating_30 := rfl
theorem bqX7_writeFloating_43 : aLook bkX7_writeFloating 43 = some blX7_writeFloating_43 := rfl
theorem bqX7_writeFloating_48 : aLook bkX7_writeFloating 48 = some blX7_writeFloating_48 := rfl
theorem bqX7_writeFloating_55 : aLook bkX7_writeFloating 55 = some blX7_writeFloating_55 := rfl
theorem bqX7_writeFloating_62 : aLook bkX7_writeFloating 62 = some blX7_writeFloating_62 := rfl
theorem boX7_writeFloating : ∀ pc is, aLook bkX7_writeFloating pc = some is → aBlk RX7 cX7_writeFloating 8 false pc is := aBks_ok (lk := lkX7) lkX7_ok (by decide +kernel)
def blX7_signNibble_0 : List aIn := [(.iload_n 0, 0, 0, 0, []), (.ifCond .eq 8, 9, 0, 0, [])]
def blX7_signNibble_4 : List aIn := [(.bipush 13, 13, 0, 0, []), (.goto 5, 11, 0, 0, [])]
def blX7_signNibble_9 : List aIn := [(.bipush 12, 12, 0, 0, [])]
def blX7_signNibble_11 : List aIn := [(.ireturn, 0, 0, 0, [])]
def bkX7_signNibble : List (Nat × List aIn) := [(0, blX7_signNibble_0), (4, blX7_signNibble_4), (9, blX7_signNibble_9), (11, blX7_signNibble_11)]
theorem bqX7_signNibble_0 : aLook bkX7_signNibble 0 = some blX7_signNibble_0 := rfl
theorem bqX7_signNibble_4 : aLook bkX7_signNibble 4 = some blX7_signNibble_4 := rfl
theorem bqX7_signNibble_9 : aLook bkX7_signNibble 9 = some blX7_signNibble_9 := rfl
theorem bqX7_signNibble_11 : aLook bkX7_signNibble 11 = some blX7_signNibble_11 := rfl
theorem boX7_signNibble : ∀ pc is, aLook bkX7_signNibble pc = some is → aBlk RX7 cX7_signNibble 1 false pc is := aBks_ok (lk := lkX7) lkX7_ok (by decide +kernel)
